/-! the desk: push, acts, machine -/
section desk3
variable {X : xG} {n : Nat} {MI : Nat → Nat → Int32} {ML : Nat → Nat → Int64} {MR : Nat → Nat → Option Nat} {r : Nat → Nat}
/-- push: answer, trouble, memory -/
def puR (MI : Nat → Nat → Int32) (A : Nat) (x : Int32) : Int32 × Int32 × (Nat → Nat → Int32) := if machTr MI = 0 then (if inR x 4 = true then (if (wkR (arP MI) A (MI 85 1) (MI 85 2) (1 <<< (x &&& 31))).1 = true then ((wkR (arP MI) A (MI 85 1) (MI 85 2) (1 <<< (x &&& 31))).2.1, 0, wkM MI (wkR (arP MI) A (MI 85 1) (MI 85 2) (1 <<< (x &&& 31)))) else (-1, 5, wkM MI (wkR (arP MI) A (MI 85 1) (MI 85 2) (1 <<< (x &&& 31))))) else (-1, 2, MI)) else (-1, machTr MI, MI)
set_option maxRecDepth 100000 in
theorem c_X10_push (hM : x_Lay MR) {A : Nat} (hA : A ≤ 8) (hAr : MI 1 6 = nI A) {x : Int32} : Cf X yX10_push cX10_push 3 (some .int) 4 [.ref 0, .int x] n SH MI ML MR (some (.int (puR MI A x).1)) (ansM (puR MI A x).2.2 (puR MI A x).2.1) ML MR := by
  obtain ⟨w, hw⟩ : ∃ w, w = wkR (arP MI) A (MI 85 1) (MI 85 2) (1 <<< (x &&& 31)) := ⟨_, rfl⟩
  obtain ⟨q, hq⟩ : ∃ q, q = puR MI A x := ⟨_, rfl⟩
  have hq2 : q = if machTr MI = 0 then (if inR x 4 = true then (if w.1 = true then (w.2.1, 0, wkM MI w) else (-1, 5, wkM MI w)) else (-1, 2, MI)) else (-1, machTr MI, MI) := by rw [hq, hw]; rfl
  rw [← hq]
  refine Ct_of (by decide) (Nat.le_of_ble_eq_true rfl) (fun G hG => ?_)
  have j37 : ∀ (t : Int32) (V : Nat → Nat → Int32), (t = 0 → q = (V 85 1, 0, V)) → (¬ t = 0 → q = (-1, t, V)) → RW X G RX10 cX10_push 3 (x_rm 4 0 0) n SH V ML MR 0 0 37 [(2, .int t), (0, .ref 0), (1, .int x)] [] := by
    intro t V h1 h2
    refine r_iload_n 0 rfl dX10_push_37 ?_
    refine r_ifne (tgt := 55) dX10_push_38 (by decide) (fun zh38 => ?_) (fun zh38 => ?_)
    · refine r_aload_n 1 rfl dX10_push_55 ?_
      refine r_iload_n 0 rfl dX10_push_56 ?_
      refine r_Vf [.int _] dX10_push_57 lk_X10_86 mb_X10_refuse in_X10_refuse se_X10_refuse rfl (c_X10_refuse) rfl rfl rfl (Nat.le_of_ble_eq_true rfl) (rfl) ?_
      exact r_iret hG dX10_push_60 (by first | (rw [h1 zh38]; exact ⟨rfl, rfl, rfl, rfl⟩) | (rw [h2 zh38]; exact ⟨rfl, rfl, rfl, rfl⟩))
    · refine r_aload_n 1 rfl dX10_push_41 ?_
      refine r_aload_n 1 rfl dX10_push_42 ?_
      refine r_getr dX10_push_43 fl_X10_64 rfl (hM _ _ _ rfl) ?_
      refine r_geti dX10_push_46 fl_X10_274 rfl ?_
      refine r_Vf [.int _] dX10_push_49 lk_X10_115 mb_X10_told in_X10_told se_X10_told rfl (c_X10_told) rfl rfl rfl (Nat.le_of_ble_eq_true rfl) (rfl) ?_
      refine r_goto (tgt := 60) dX10_push_52 (by decide) ?_
      exact r_iret hG dX10_push_60 (by first | (rw [h1 zh38]; exact ⟨rfl, rfl, rfl, rfl⟩) | (rw [h2 zh38]; exact ⟨rfl, rfl, rfl, rfl⟩))
  have j20 : ∀ t, t = (if machTr MI = 0 then (if inR x 4 = true then 0 else 2) else machTr MI) → RW X G RX10 cX10_push 3 (x_rm 4 0 0) n SH MI ML MR 0 0 20 [(2, .int t), (0, .ref 0), (1, .int x)] [] := by
    intro t ht
    by_cases h1 : machTr MI = 0
    · rw [if_pos h1] at ht hq2
      by_cases h2 : inR x 4 = true
      · rw [if_pos h2] at ht hq2
        subst ht
        refine r_iload_n 0 rfl dX10_push_20 ?_
        refine r_ifne (tgt := 37) dX10_push_21 (by decide) (fun zh21 => ?_) (fun zh21 => ?_)
        · exact absurd zh21 (fun z => z rfl)
        refine r_aload_n 1 rfl dX10_push_24 ?_
        refine r_getr dX10_push_25 fl_X10_64 rfl (hM _ _ _ rfl) ?_
        refine r_iload_n 2 rfl dX10_push_28 ?_
        refine r_Vf [.int _] dX10_push_29 lk_X10_271 mb_X9_changes in_X9_changes se_X9_changes rfl (c_X9_changes hM hA hAr hw) rfl rfl rfl (Nat.le_of_ble_eq_true rfl) (rfl) ?_
        refine r_ifne (tgt := 37) dX10_push_32 (by decide) (fun zh32 => ?_) (fun zh32 => ?_)
        · first
            | (rw [if01] at zh32; rw [zh32] at hq2; exact j37 _ _ (fun z => absurd z (by decide)) (fun _ => hq2))
            | (have hw1 : w.1 = true := by simpa using zh32
               rw [if_pos hw1] at hq2; exact j37 _ _ (fun _ => hq2) (fun z => absurd rfl z))
        · refine r_iconst (v := 5) rfl dX10_push_35 ?_
          refine r_istore_n (ls2 := [(2, .int 5), (0, .ref 0), (1, .int x)]) dX10_push_36 (by decide) rfl ?_
          first
            | (rw [if01] at zh32; rw [zh32] at hq2; exact j37 _ _ (fun z => absurd z (by decide)) (fun _ => hq2))
            | (have hw1 : w.1 = true := by simpa using zh32
               rw [if_pos hw1] at hq2; exact j37 _ _ (fun _ => hq2) (fun z => absurd rfl z))
      · rw [if_neg h2] at ht hq2
        subst ht
        refine r_iload_n 0 rfl dX10_push_20 ?_
        refine r_ifne (tgt := 37) dX10_push_21 (by decide) (fun zh21 => ?_) (fun zh21 => ?_)
        rotate_left
        · exact absurd zh21 (by decide)
        exact j37 _ _ (fun z => absurd z (by decide)) (fun _ => hq2)
    · rw [if_neg h1] at ht hq2
      refine r_iload_n 0 rfl dX10_push_20 ?_
      refine r_ifne (tgt := 37) dX10_push_21 (by decide) (fun zh21 => ?_) (fun zh21 => ?_)
      rotate_left
      · exact absurd zh21 (fun z => h1 (ht ▸ z))
      exact j37 _ _ (fun z => absurd (ht ▸ z) h1) (fun _ => by rw [hq2, ht])
  refine r_aload_n 0 rfl dX10_push_0 ?_
  refine r_Vf [] dX10_push_1 lk_X10_267 mb_X10_machineTrouble in_X10_machineTrouble se_X10_machineTrouble rfl (c_X10_machineTrouble hM) rfl rfl rfl (Nat.le_of_ble_eq_true rfl) (rfl) ?_
  refine r_istore_n (ls2 := [(2, .int (machTr MI)), (0, .ref 0), (1, .int x)]) dX10_push_4 (by decide) rfl ?_
  refine r_iload_n 0 rfl dX10_push_5 ?_
  refine r_ifne (tgt := 20) dX10_push_6 (by decide) (fun zh6 => ?_) (fun zh6 => ?_)
  · first | exact j20 _ (by rw [if_neg zh6]) | exact j20 _ (by rw [if_pos zh6, if_neg (fun z => (inR_t.mp z).1 zh10)]) | exact j20 _ (by rw [if_pos zh6, if_neg (fun z => (inR_t.mp z).2 (Int32.not_lt.mp zh15))]) | exact j20 _ (by rw [if_pos zh6, if_pos (inR_t.mpr ⟨zh10, Int32.not_le.mpr zh15⟩)]; exact zh6)
  · refine r_iload_n 2 rfl dX10_push_9 ?_
    refine r_iflt (tgt := 18) dX10_push_10 (by decide) (fun zh10 => ?_) (fun zh10 => ?_)
    · refine r_iconst (v := 2) rfl dX10_push_18 ?_
      refine r_istore_n (ls2 := [(2, .int 2), (0, .ref 0), (1, .int x)]) dX10_push_19 (by decide) rfl ?_
      first | exact j20 _ (by rw [if_neg zh6]) | exact j20 _ (by rw [if_pos zh6, if_neg (fun z => (inR_t.mp z).1 zh10)]) | exact j20 _ (by rw [if_pos zh6, if_neg (fun z => (inR_t.mp z).2 (Int32.not_lt.mp zh15))]) | exact j20 _ (by rw [if_pos zh6, if_pos (inR_t.mpr ⟨zh10, Int32.not_le.mpr zh15⟩)]; exact zh6)
    · refine r_iload_n 2 rfl dX10_push_13 ?_
      refine r_iconst (v := 4) rfl dX10_push_14 ?_
      refine r_icmplt (tgt := 20) dX10_push_15 (by decide) (fun zh15 => ?_) (fun zh15 => ?_)
      · first | exact j20 _ (by rw [if_neg zh6]) | exact j20 _ (by rw [if_pos zh6, if_neg (fun z => (inR_t.mp z).1 zh10)]) | exact j20 _ (by rw [if_pos zh6, if_neg (fun z => (inR_t.mp z).2 (Int32.not_lt.mp zh15))]) | exact j20 _ (by rw [if_pos zh6, if_pos (inR_t.mpr ⟨zh10, Int32.not_le.mpr zh15⟩)]; exact zh6)
      · refine r_iconst (v := 2) rfl dX10_push_18 ?_
        refine r_istore_n (ls2 := [(2, .int 2), (0, .ref 0), (1, .int x)]) dX10_push_19 (by decide) rfl ?_
        first | exact j20 _ (by rw [if_neg zh6]) | exact j20 _ (by rw [if_pos zh6, if_neg (fun z => (inR_t.mp z).1 zh10)]) | exact j20 _ (by rw [if_pos zh6, if_neg (fun z => (inR_t.mp z).2 (Int32.not_lt.mp zh15))]) | exact j20 _ (by rw [if_pos zh6, if_pos (inR_t.mpr ⟨zh10, Int32.not_le.mpr zh15⟩)]; exact zh6)
def rcM (MI : Nat → Nat → Int32) (r : Nat → Nat) (K s : Nat) (y : Int32) : Nat → Nat → Int32 := u2 (u2 (frM MI (31 + r (frP K)) K 0 (nI s)) (31 + r (frP K)) 2 (MI 2 s)) 2 s y
theorem rcM_b {K s b : Nat} {y : Int32} (hr : r (frP K) < 12) (h : b < 29) (h2 : b ≠ 2) : rcM MI r K s y b = MI b := by
  unfold rcM
  rw [u2_row _ _ h2, u2_row _ _ (by omega), frM_b (by omega) (by omega)]
/-! recode: answer, trouble -/
set_option maxRecDepth 100000 in
theorem c_X10_recode_no (hM : x_Lay MR) {S : Nat} (hSr : MI 1 1 = nI S) {x y : Int32} (h : ¬ (inR x (nI S) = true ∧ inR y 4 = true)) : Cf X yX10_recode cX10_recode 4 (some .int) 2 [.ref 0, .int x, .int y] n SH MI ML MR (some (.int (-1))) (ansM MI (if inR x (nI S) = true then 2 else 1)) ML MR := by
  refine Ct_of (by decide) (Nat.le_of_ble_eq_true rfl) (fun G hG => ?_)
  refine r_iload_n 1 rfl dX10_recode_0 ?_
  refine r_iflt (tgt := 15) dX10_recode_1 (by decide) (fun zh1 => ?_) (fun zh1 => ?_)
  · refine r_aload_n 0 rfl dX10_recode_15 ?_
    refine r_iconst (v := 1) rfl dX10_recode_16 ?_
    refine r_Vf [.int _] dX10_recode_17 lk_X10_86 mb_X10_refuse in_X10_refuse se_X10_refuse rfl (c_X10_refuse) rfl rfl rfl (Nat.le_of_ble_eq_true rfl) (rfl) ?_
    exact r_iret hG dX10_recode_20 (by first | (exact ⟨rfl, by rw [if_neg (fun z => (inR_t.mp z).1 zh1)]; rfl, rfl, rfl⟩) | (rw [hSr] at zh12; exact ⟨rfl, by rw [if_neg (fun z => (inR_t.mp z).2 (Int32.not_lt.mp zh12))]; rfl, rfl, rfl⟩))
  · refine r_iload_n 1 rfl dX10_recode_4 ?_
    refine r_aload_n 0 rfl dX10_recode_5 ?_
    refine r_getr dX10_recode_6 fl_X10_10 rfl (hM _ _ _ rfl) ?_
    refine r_geti dX10_recode_9 fl_X10_133 rfl ?_
    refine r_icmplt (tgt := 21) dX10_recode_12 (by decide) (fun zh12 => ?_) (fun zh12 => ?_)
    · refine r_iload_n 2 rfl dX10_recode_21 ?_
      refine r_iflt (tgt := 30) dX10_recode_22 (by decide) (fun zh22 => ?_) (fun zh22 => ?_)
      · refine r_aload_n 0 rfl dX10_recode_30 ?_
        refine r_iconst (v := 2) rfl dX10_recode_31 ?_
        refine r_Vf [.int _] dX10_recode_32 lk_X10_86 mb_X10_refuse in_X10_refuse se_X10_refuse rfl (c_X10_refuse) rfl rfl rfl (Nat.le_of_ble_eq_true rfl) (rfl) ?_
        exact r_iret hG dX10_recode_35 (by rw [hSr] at zh12; exact ⟨rfl, by rw [if_pos (inR_t.mpr ⟨zh1, Int32.not_le.mpr zh12⟩)]; rfl, rfl, rfl⟩)
      · refine r_iload_n 2 rfl dX10_recode_25 ?_
        refine r_iconst (v := 4) rfl dX10_recode_26 ?_
        refine r_icmplt (tgt := 36) dX10_recode_27 (by decide) (fun zh27 => ?_) (fun zh27 => ?_)
        · rw [hSr] at zh12
          exact absurd ⟨inR_t.mpr ⟨zh1, Int32.not_le.mpr zh12⟩, inR_t.mpr ⟨zh22, Int32.not_le.mpr zh27⟩⟩ h
        · refine r_aload_n 0 rfl dX10_recode_30 ?_
          refine r_iconst (v := 2) rfl dX10_recode_31 ?_
          refine r_Vf [.int _] dX10_recode_32 lk_X10_86 mb_X10_refuse in_X10_refuse se_X10_refuse rfl (c_X10_refuse) rfl rfl rfl (Nat.le_of_ble_eq_true rfl) (rfl) ?_
          exact r_iret hG dX10_recode_35 (by rw [hSr] at zh12; exact ⟨rfl, by rw [if_pos (inR_t.mpr ⟨zh1, Int32.not_le.mpr zh12⟩)]; rfl, rfl, rfl⟩)
    · refine r_aload_n 0 rfl dX10_recode_15 ?_
      refine r_iconst (v := 1) rfl dX10_recode_16 ?_
      refine r_Vf [.int _] dX10_recode_17 lk_X10_86 mb_X10_refuse in_X10_refuse se_X10_refuse rfl (c_X10_refuse) rfl rfl rfl (Nat.le_of_ble_eq_true rfl) (rfl) ?_
      exact r_iret hG dX10_recode_20 (by first | (exact ⟨rfl, by rw [if_neg (fun z => (inR_t.mp z).1 zh1)]; rfl, rfl, rfl⟩) | (rw [hSr] at zh12; exact ⟨rfl, by rw [if_neg (fun z => (inR_t.mp z).2 (Int32.not_lt.mp zh12))]; rfl, rfl, rfl⟩))
set_option maxRecDepth 100000 in
theorem c_X10_recode (hM : x_Lay MR) (hSt : x_St X) (hAA : x_AA X) (hR : x_Rw MR r) {K S A s : Nat} (hK : K ≤ 12) (hk : MI 29 2 = nI K) (hS : S ≤ 6) (hSr : MI 1 1 = nI S) (hA : A ≤ 8) (hAr : MI 1 6 = nI A) (hs : s < S) {y : Int32} (hy : inR y 4 = true) : Cf X yX10_recode cX10_recode 4 (some .int) 7 [.ref 0, .int (nI s), .int y] n SH MI ML MR (some (.int (MI 2 s))) (ansM (saM (rcM MI r K s y) ML S A) 0) (saL (rcM MI r K s y) ML S A) (frR MR K) := by
  have hrl : r (frP K) < 12 := hR.2.1 _ (by unfold frP; split <;> omega)
  have hy2 := inR_t.mp hy
  have h1 : rcM MI r K s y 1 = MI 1 := rcM_b hrl (by decide) (by decide)
  refine Ct_of (by decide) (Nat.le_of_ble_eq_true rfl) (fun G hG => ?_)
  refine r_iload_n 1 rfl dX10_recode_0 ?_
  refine r_iflt (tgt := 15) dX10_recode_1 (by decide) (fun zh1 => ?_) (fun zh1 => ?_)
  · exact absurd zh1 (nI_pos (by omega))
  refine r_iload_n 1 rfl dX10_recode_4 ?_
  refine r_aload_n 0 rfl dX10_recode_5 ?_
  refine r_getr dX10_recode_6 fl_X10_10 rfl (hM _ _ _ rfl) ?_
  refine r_geti dX10_recode_9 fl_X10_133 rfl ?_
  refine r_icmplt (tgt := 21) dX10_recode_12 (by decide) (fun zh12 => ?_) (fun zh12 => ?_)
  rotate_left
  · exact absurd zh12 (fun q => q (by rw [hSr]; exact nI_lt hs (by omega)))
  refine r_iload_n 2 rfl dX10_recode_21 ?_
  refine r_iflt (tgt := 30) dX10_recode_22 (by decide) (fun zh22 => ?_) (fun zh22 => ?_)
  · exact absurd zh22 (hy2.1)
  refine r_iload_n 2 rfl dX10_recode_25 ?_
  refine r_iconst (v := 4) rfl dX10_recode_26 ?_
  refine r_icmplt (tgt := 36) dX10_recode_27 (by decide) (fun zh27 => ?_) (fun zh27 => ?_)
  rotate_left
  · exact absurd zh27 (fun q => hy2.2 (Int32.not_lt.mp q))
  refine r_aload_n 0 rfl dX10_recode_36 ?_
  refine r_getr dX10_recode_37 fl_X10_10 rfl (hM _ _ _ rfl) ?_
  refine r_getr dX10_recode_40 fl_X10_136 rfl (hM _ _ _ rfl) ?_
  refine r_iload_n 1 rfl dX10_recode_43 ?_
  refine r_Sf [.ref _, .int _] dX10_recode_44 lk_X10_140 mb_X10_pick sc_X10_pick rfl (c_X10_pick (N := 6) rfl (by decide)) rfl (Nat.le_of_ble_eq_true rfl) (rfl) ?_
  rw [pickV_nI _ (show s < 6 by omega) (by decide)]
  refine r_istore_n (ls2 := [(3, .int (MI 2 s)), (0, .ref 0), (1, .int (nI s)), (2, .int y)]) dX10_recode_47 (by decide) rfl ?_
  refine r_aload_n 1 rfl dX10_recode_48 ?_
  refine r_getr dX10_recode_49 fl_X10_28 rfl (hM _ _ _ rfl) ?_
  refine r_iload_n 2 rfl dX10_recode_52 ?_
  refine r_iload_n 3 rfl dX10_recode_53 ?_
  refine r_Vn [.int _, .int _] dX10_recode_54 lk_X10_302 mb_X0_changeCode in_X0_changeCode se_X0_changeCode rfl (c_X0_changeCode hM hAA hR hK hk (show s < 6 by omega)) rfl rfl rfl (Nat.le_of_ble_eq_true rfl) (rfl) ?_
  rw [show u2 (u2 (frM MI (31 + r (frP K)) K 0 (nI s)) (31 + r (frP K)) 2 (MI 2 s)) 2 s y = rcM MI r K s y from rfl]
  refine r_aload_n 1 rfl dX10_recode_57 ?_
  refine r_Vn [] dX10_recode_58 lk_X10_109 mb_X10_studyAnew in_X10_studyAnew se_X10_studyAnew rfl (c_X10_studyAnew (MI := rcM MI r K s y) (frR_Lay hM) hSt hS (by rw [h1]; exact hSr) hA (by rw [h1]; exact hAr)) rfl rfl rfl (Nat.le_of_ble_eq_true rfl) (rfl) ?_
  refine r_aload_n 1 rfl dX10_recode_61 ?_
  refine r_iload_n 0 rfl dX10_recode_62 ?_
  refine r_Vf [.int _] dX10_recode_63 lk_X10_115 mb_X10_told in_X10_told se_X10_told rfl (c_X10_told) rfl rfl rfl (Nat.le_of_ble_eq_true rfl) (rfl) ?_
  exact r_iret hG dX10_recode_66 (⟨rfl, rfl, rfl, rfl⟩)
def stM (MI : Nat → Nat → Int32) (r : Nat → Nat) (K r0 A : Nat) : Nat → Nat → Int32 := removeM (skM (frM MI (31 + r (frP K)) K 1 (nI r0)) MI (31 + r (frP K)) r0 6) r0 A
set_option maxRecDepth 100000 in
theorem c_X10_strike_no (hM : x_Lay MR) {x : Int32} (h : ¬ inR x (MI 1 6) = true) : Cf X yX10_strike cX10_strike 2 (some .int) 2 [.ref 0, .int x] n SH MI ML MR (some (.int (-1))) (ansM MI 1) ML MR := by
  refine Ct_of (by decide) (Nat.le_of_ble_eq_true rfl) (fun G hG => ?_)
  refine r_aload_n 0 rfl dX10_strike_0 ?_
  refine r_iload_n 1 rfl dX10_strike_1 ?_
  refine r_Vf [.int _] dX10_strike_2 lk_X10_153 mb_X10_hasArc in_X10_hasArc se_X10_hasArc rfl (c_X10_hasArc hM) rfl rfl rfl (Nat.le_of_ble_eq_true rfl) (rfl) ?_
  refine r_ifne (tgt := 14) dX10_strike_5 (by decide) (fun zh5 => ?_) (fun zh5 => ?_)
  · exact absurd zh5 (fun q => q (by rw [if_neg h]))
  refine r_aload_n 0 rfl dX10_strike_8 ?_
  refine r_iconst (v := 1) rfl dX10_strike_9 ?_
  refine r_Vf [.int _] dX10_strike_10 lk_X10_86 mb_X10_refuse in_X10_refuse se_X10_refuse rfl (c_X10_refuse) rfl rfl rfl (Nat.le_of_ble_eq_true rfl) (rfl) ?_
  exact r_iret hG dX10_strike_13 (⟨rfl, rfl, rfl, rfl⟩)
theorem stM_f {K r0 A j : Nat} (hr : r (frP K) < 12) (hj : j ≠ 6) : stM MI r K r0 A 1 j = MI 1 j := by
  unfold stM removeM
  rw [u2_ne _ _ (by omega)]
  unfold remRow
  rw [if_neg (by omega)]
  unfold skM
  rw [if_neg (by omega), frM_b (by omega) (by decide)]
set_option maxRecDepth 100000 in
theorem c_X10_strike (hM : x_Lay MR) (hSt : x_St X) (hAA : x_AA X) (hR : x_Rw MR r) {K S A r0 : Nat} (hK : K ≤ 12) (hk : MI 29 2 = nI K) (hS : S ≤ 6) (hSr : MI 1 1 = nI S) (hA : A ≤ 8) (hAr : MI 1 6 = nI A) (hr0 : r0 < A) : Cf X yX10_strike cX10_strike 2 (some .int) 7 [.ref 0, .int (nI r0)] n SH MI ML MR (some (.int (nI (A - 1)))) (ansM (saM (stM MI r K r0 A) ML S (A - 1)) 0) (saL (stM MI r K r0 A) ML S (A - 1)) (frR MR K) := by
  have hrl : r (frP K) < 12 := hR.2.1 _ (by unfold frP; split <;> omega)
  have h6 : stM MI r K r0 A 1 6 = nI (A - 1) := by unfold stM removeM; exact u2_eq _ _ _ _
  have h16 : saM (stM MI r K r0 A) ML S (A - 1) 1 6 = nI (A - 1) := by
    unfold saM
    rw [u2_row _ _ (by decide), u2_row _ _ (by decide), u2_row _ _ (by decide)]
    unfold zsM
    rw [if_neg (by omega), lkM_b (by omega), h6]
  have hM2 : x_Lay (frR MR K) := frR_Lay hM
  refine Ct_of (by decide) (Nat.le_of_ble_eq_true rfl) (fun G hG => ?_)
  refine r_aload_n 0 rfl dX10_strike_0 ?_
  refine r_iload_n 1 rfl dX10_strike_1 ?_
  refine r_Vf [.int _] dX10_strike_2 lk_X10_153 mb_X10_hasArc in_X10_hasArc se_X10_hasArc rfl (c_X10_hasArc hM) rfl rfl rfl (Nat.le_of_ble_eq_true rfl) (rfl) ?_
  refine r_ifne (tgt := 14) dX10_strike_5 (by decide) (fun zh5 => ?_) (fun zh5 => ?_)
  rotate_left
  · exact absurd zh5 (fun q => absurd q (by rw [hAr, if_pos (inR_nI hr0 (by omega))]; decide))
  refine r_aload_n 0 rfl dX10_strike_14 ?_
  refine r_getr dX10_strike_15 fl_X10_28 rfl (hM _ _ _ rfl) ?_
  refine r_iload_n 1 rfl dX10_strike_18 ?_
  refine r_Vn [.int _] dX10_strike_19 lk_X10_306 mb_X0_strikeOut in_X0_strikeOut se_X0_strikeOut rfl (c_X0_strikeOut hM hAA hR hK hk hA hr0 hAr) rfl rfl rfl (Nat.le_of_ble_eq_true rfl) (rfl) ?_
  rw [show removeM (skM (frM MI (31 + r (frP K)) K 1 (nI r0)) MI (31 + r (frP K)) r0 6) r0 A = stM MI r K r0 A from rfl]
  refine r_aload_n 0 rfl dX10_strike_22 ?_
  refine r_Vn [] dX10_strike_23 lk_X10_109 mb_X10_studyAnew in_X10_studyAnew se_X10_studyAnew rfl (c_X10_studyAnew (MI := stM MI r K r0 A) hM2 hSt hS (by rw [stM_f hrl (by decide)]; exact hSr) (show A - 1 ≤ 8 by omega) h6) rfl rfl rfl (Nat.le_of_ble_eq_true rfl) (rfl) ?_
  refine r_aload_n 0 rfl dX10_strike_26 ?_
  refine r_aload_n 0 rfl dX10_strike_27 ?_
  refine r_getr dX10_strike_28 fl_X10_10 rfl (hM2 _ _ _ rfl) ?_
  refine r_geti dX10_strike_31 fl_X10_112 rfl ?_
  refine r_Vf [.int _] dX10_strike_34 lk_X10_115 mb_X10_told in_X10_told se_X10_told rfl (c_X10_told) rfl rfl rfl (Nat.le_of_ble_eq_true rfl) (rfl) ?_
  exact r_iret hG dX10_strike_37 (⟨by rw [h16], rfl, rfl, rfl⟩)
def adM (MI : Nat → Nat → Int32) (r : Nat → Nat) (K g : Nat) (x y : Int32) : Nat → Nat → Int32 := u2 (u2 (u2 (frM MI (31 + r (frP K)) K 2 (nI g)) 12 g x) 13 g y) 1 8 (nI (g + 1))
def adN (MI : Nat → Nat → Int32) (x y : Int32) : Int32 := if MI 1 0 = 0 ∨ ¬ inR x 5 = true then 1 else if inR y 729 = true then 3 else 2
set_option maxRecDepth 100000 in
theorem c_X10_add_no (hM : x_Lay MR) {g : Nat} (hg : g ≤ 16) (hgr : MI 1 8 = nI g) {x y : Int32} (h : ¬ (¬ MI 1 0 = 0 ∧ inR x 5 = true ∧ inR y 729 = true ∧ g < 16)) : Cf X yX10_add cX10_add 3 (some .int) 2 [.ref 0, .int x, .int y] n SH MI ML MR (some (.int (-1))) (ansM MI (adN MI x y)) ML MR := by
  refine Ct_of (by decide) (Nat.le_of_ble_eq_true rfl) (fun G hG => ?_)
  refine r_aload_n 0 rfl dX10_add_0 ?_
  refine r_getr dX10_add_1 fl_X10_10 rfl (hM _ _ _ rfl) ?_
  refine r_geti dX10_add_4 fl_X10_124 rfl ?_
  refine r_ifeq (tgt := 17) dX10_add_7 (by decide) (fun zh7 => ?_) (fun zh7 => ?_)
  · refine r_aload_n 0 rfl dX10_add_17 ?_
    refine r_iconst (v := 1) rfl dX10_add_18 ?_
    refine r_Vf [.int _] dX10_add_19 lk_X10_86 mb_X10_refuse in_X10_refuse se_X10_refuse rfl (c_X10_refuse) rfl rfl rfl (Nat.le_of_ble_eq_true rfl) (rfl) ?_
    exact r_iret hG dX10_add_22 (by first | exact ⟨rfl, by unfold adN; rw [if_pos (Or.inl zh7)]; rfl, rfl, rfl⟩ | exact ⟨rfl, by unfold adN; rw [if_pos (Or.inr (by simpa using zh14))]; rfl, rfl, rfl⟩)
  · refine r_iload_n 1 rfl dX10_add_10 ?_
    refine r_Sf [.int _] dX10_add_11 lk_X10_247 mb_X10_isFunction sc_X10_isFunction rfl (c_X10_isFunction) rfl (Nat.le_of_ble_eq_true rfl) (rfl) ?_
    refine r_ifne (tgt := 23) dX10_add_14 (by decide) (fun zh14 => ?_) (fun zh14 => ?_)
    · refine r_iload_n 2 rfl dX10_add_23 ?_
      refine r_Sf [.int _] dX10_add_24 lk_X10_207 mb_X10_isCube sc_X10_isCube rfl (c_X10_isCube) rfl (Nat.le_of_ble_eq_true rfl) (rfl) ?_
      refine r_ifne (tgt := 36) dX10_add_27 (by decide) (fun zh27 => ?_) (fun zh27 => ?_)
      · refine r_aload_n 0 rfl dX10_add_36 ?_
        refine r_getr dX10_add_37 fl_X10_10 rfl (hM _ _ _ rfl) ?_
        refine r_geti dX10_add_40 fl_X10_163 rfl ?_
        refine r_bipush (v := 16) rfl dX10_add_43 ?_
        refine r_icmplt (tgt := 54) dX10_add_45 (by decide) (fun zh45 => ?_) (fun zh45 => ?_)
        · rw [hgr] at zh45
          exact absurd ⟨zh7, by simpa using zh14, by simpa using zh27, (nI_ltI (by omega) (by decide)).mp zh45⟩ h
        · refine r_aload_n 0 rfl dX10_add_48 ?_
          refine r_iconst (v := 3) rfl dX10_add_49 ?_
          refine r_Vf [.int _] dX10_add_50 lk_X10_86 mb_X10_refuse in_X10_refuse se_X10_refuse rfl (c_X10_refuse) rfl rfl rfl (Nat.le_of_ble_eq_true rfl) (rfl) ?_
          exact r_iret hG dX10_add_53 (⟨rfl, by unfold adN; rw [if_neg (fun z => z.elim zh7 (fun w => w (by simpa using zh14))), if_pos (by simpa using zh27)]; rfl, rfl, rfl⟩)
      · refine r_aload_n 0 rfl dX10_add_30 ?_
        refine r_iconst (v := 2) rfl dX10_add_31 ?_
        refine r_Vf [.int _] dX10_add_32 lk_X10_86 mb_X10_refuse in_X10_refuse se_X10_refuse rfl (c_X10_refuse) rfl rfl rfl (Nat.le_of_ble_eq_true rfl) (rfl) ?_
        exact r_iret hG dX10_add_35 (⟨rfl, by unfold adN; rw [if_neg (fun z => z.elim zh7 (fun w => w (by simpa using zh14))), if_neg (by simpa using zh27)]; rfl, rfl, rfl⟩)
    · refine r_aload_n 0 rfl dX10_add_17 ?_
      refine r_iconst (v := 1) rfl dX10_add_18 ?_
      refine r_Vf [.int _] dX10_add_19 lk_X10_86 mb_X10_refuse in_X10_refuse se_X10_refuse rfl (c_X10_refuse) rfl rfl rfl (Nat.le_of_ble_eq_true rfl) (rfl) ?_
      exact r_iret hG dX10_add_22 (by first | exact ⟨rfl, by unfold adN; rw [if_pos (Or.inl zh7)]; rfl, rfl, rfl⟩ | exact ⟨rfl, by unfold adN; rw [if_pos (Or.inr (by simpa using zh14))]; rfl, rfl, rfl⟩)
theorem adM_f {K g j : Nat} {x y : Int32} (hr : r (frP K) < 12) (hj : j ≠ 8) : adM MI r K g x y 1 j = MI 1 j := by
  unfold adM
  rw [u2_ne _ _ (by omega), u2_row _ _ (by decide), u2_row _ _ (by decide), frM_b (by omega) (by decide)]
set_option maxRecDepth 100000 in
theorem c_X10_add (hM : x_Lay MR) (hAA : x_AA X) (hR : x_Rw MR r) {K g : Nat} (hK : K ≤ 12) (hk : MI 29 2 = nI K) (hg : g < 16) (hgr : MI 1 8 = nI g) {x y : Int32} (h0 : ¬ MI 1 0 = 0) (hx : inR x 5 = true) (hy : inR y 729 = true) : Cf X yX10_add cX10_add 3 (some .int) 4 [.ref 0, .int x, .int y] n SH MI ML MR (some (.int (nI (g + 1)))) (ansM (u2 (u2 (adM MI r K g x y) 85 1 (MI 1 3)) 85 2 0) 0) ML (frR MR K) := by
  have hrl : r (frP K) < 12 := hR.2.1 _ (by unfold frP; split <;> omega)
  have hM2 : x_Lay (frR MR K) := frR_Lay hM
  have h8 : adM MI r K g x y 1 8 = nI (g + 1) := u2_eq _ _ _ _
  refine Ct_of (by decide) (Nat.le_of_ble_eq_true rfl) (fun G hG => ?_)
  refine r_aload_n 0 rfl dX10_add_0 ?_
  refine r_getr dX10_add_1 fl_X10_10 rfl (by first | exact hM 0 0 1 rfl | exact hM2 0 0 1 rfl) ?_
  refine r_geti dX10_add_4 fl_X10_124 rfl ?_
  refine r_ifeq (tgt := 17) dX10_add_7 (by decide) (fun zh7 => ?_) (fun zh7 => ?_)
  · exact absurd zh7 (h0)
  refine r_iload_n 1 rfl dX10_add_10 ?_
  refine r_Sf [.int _] dX10_add_11 lk_X10_247 mb_X10_isFunction sc_X10_isFunction rfl (c_X10_isFunction) rfl (Nat.le_of_ble_eq_true rfl) (rfl) ?_
  refine r_ifne (tgt := 23) dX10_add_14 (by decide) (fun zh14 => ?_) (fun zh14 => ?_)
  rotate_left
  · exact absurd zh14 (fun q => absurd q (by rw [if_pos hx]; decide))
  refine r_iload_n 2 rfl dX10_add_23 ?_
  refine r_Sf [.int _] dX10_add_24 lk_X10_207 mb_X10_isCube sc_X10_isCube rfl (c_X10_isCube) rfl (Nat.le_of_ble_eq_true rfl) (rfl) ?_
  refine r_ifne (tgt := 36) dX10_add_27 (by decide) (fun zh27 => ?_) (fun zh27 => ?_)
  rotate_left
  · exact absurd zh27 (fun q => absurd q (by rw [if_pos hy]; decide))
  refine r_aload_n 0 rfl dX10_add_36 ?_
  refine r_getr dX10_add_37 fl_X10_10 rfl (by first | exact hM 0 0 1 rfl | exact hM2 0 0 1 rfl) ?_
  refine r_geti dX10_add_40 fl_X10_163 rfl ?_
  refine r_bipush (v := 16) rfl dX10_add_43 ?_
  refine r_icmplt (tgt := 54) dX10_add_45 (by decide) (fun zh45 => ?_) (fun zh45 => ?_)
  rotate_left
  · exact absurd zh45 (fun q => q (by rw [hgr]; exact nI_lt hg (by decide)))
  refine r_aload_n 0 rfl dX10_add_54 ?_
  refine r_getr dX10_add_55 fl_X10_28 rfl (hM _ _ _ rfl) ?_
  refine r_iload_n 1 rfl dX10_add_58 ?_
  refine r_iload_n 2 rfl dX10_add_59 ?_
  refine r_Vn [.int _, .int _] dX10_add_60 lk_X10_309 mb_X0_addGate in_X0_addGate se_X0_addGate rfl (c_X0_addGate hM hAA hR hK hk hg hgr) rfl rfl rfl (Nat.le_of_ble_eq_true rfl) (rfl) ?_
  rw [show u2 (u2 (u2 (frM MI (31 + r (frP K)) K 2 (nI g)) 12 g x) 13 g y) 1 8 (nI (g + 1)) = adM MI r K g x y from rfl]
  refine r_aload_n 0 rfl dX10_add_63 ?_
  refine r_getr dX10_add_64 fl_X10_64 rfl (hM2 _ _ _ rfl) ?_
  refine r_Vn [] dX10_add_67 lk_X10_312 mb_X9_restart in_X9_restart se_X9_restart rfl (c_X9_restart hM2) rfl rfl rfl (Nat.le_of_ble_eq_true rfl) (rfl) ?_
  rw [adM_f hrl (by decide)]
  refine r_aload_n 0 rfl dX10_add_70 ?_
  refine r_aload_n 0 rfl dX10_add_71 ?_
  refine r_getr dX10_add_72 fl_X10_10 rfl (by first | exact hM 0 0 1 rfl | exact hM2 0 0 1 rfl) ?_
  refine r_geti dX10_add_75 fl_X10_163 rfl ?_
  refine r_Vf [.int _] dX10_add_78 lk_X10_115 mb_X10_told in_X10_told se_X10_told rfl (c_X10_told) rfl rfl rfl (Nat.le_of_ble_eq_true rfl) (rfl) ?_
  exact r_iret hG dX10_add_81 (⟨by rw [u2_row _ _ (show 1 ≠ 85 by decide), u2_row _ _ (show 1 ≠ 85 by decide), h8], rfl, rfl, rfl⟩)
/-! undo: the machine as it was, looked at anew -/
set_option maxRecDepth 100000 in
theorem c_X10_undo_no (hM : x_Lay MR) (hk : MI 29 2 = 0) : Cf X yX10_undo cX10_undo 1 (some .boolean) 1 [.ref 0] n SH MI ML MR (some (.int 0)) (ansM MI 1) ML MR := by
  refine Ct_of (by decide) (Nat.le_of_ble_eq_true rfl) (fun G hG => ?_)
  refine r_aload_n 0 rfl dX10_undo_0 ?_
  refine r_getr dX10_undo_1 fl_X10_28 rfl (hM _ _ _ rfl) ?_
  refine r_geti dX10_undo_4 fl_X10_106 rfl ?_
  refine r_ifgt (tgt := 17) dX10_undo_7 (by decide) (fun zh7 => ?_) (fun zh7 => ?_)
  · exact absurd zh7 (by rw [hk]; decide)
  refine r_aload_n 0 rfl dX10_undo_10 ?_
  refine r_iconst (v := 1) rfl dX10_undo_11 ?_
  refine r_puti dX10_undo_12 fl_X10_118 rfl rfl rfl ?_
  refine r_iconst (v := 0) rfl dX10_undo_15 ?_
  exact r_zret hG dX10_undo_16 (rfl) (⟨rfl, rfl, rfl, rfl⟩)
set_option maxRecDepth 100000 in
theorem c_X10_undo (hM : x_Lay MR) (hSt : x_St X) (hR : x_Rw MR r) {K S A s r0 g : Nat} (hK : K ≤ 12) (hK0 : 0 < K) (hk : MI 29 2 = nI K) (hS : S ≤ 6) (hSr : MI 1 1 = nI S) (hA : A ≤ 8) (hAr : MI 1 6 = nI A) {V : Nat → Nat → Int32} (hV : V = tbR MI (31 + r (K - 1)) K s r0 A g)
    (h0 : MI (31 + r (K - 1)) 0 = 0 → s < 6 ∧ MI (31 + r (K - 1)) 1 = nI s) (h1 : MI (31 + r (K - 1)) 0 = 1 → A ≤ 7 ∧ r0 ≤ A ∧ MI (31 + r (K - 1)) 1 = nI r0) (h2 : ¬ MI (31 + r (K - 1)) 0 = 0 → ¬ MI (31 + r (K - 1)) 0 = 1 → 0 < g ∧ MI 1 8 = nI g) {A2 : Nat} (hA2 : A2 = if MI (31 + r (K - 1)) 0 = 1 then A + 1 else A) : Cf X yX10_undo cX10_undo 1 (some .boolean) 7 [.ref 0] n SH MI ML MR (some (.int 1)) (ansM (if MI (31 + r (K - 1)) 0 = 2 then u2 (u2 V 85 1 (MI 1 3)) 85 2 0 else saM V ML S A2) 0) (if MI (31 + r (K - 1)) 0 = 2 then ML else saL V ML S A2) MR := by
  obtain ⟨b, hb⟩ : ∃ b, b = 31 + r (K - 1) := ⟨_, rfl⟩
  rw [← hb] at h0 h1 h2 hA2 hV ⊢
  have hrl : r (K - 1) < 12 := hR.2.1 _ (by omega)
  have hV1 : ∀ j, j ≠ 6 → j ≠ 8 → V 1 j = MI 1 j := fun j z6 z8 => by
    rw [hV]
    unfold tbR
    split
    · rw [u2_row _ _ (by decide), u2_row _ _ (by decide)]
    · split
      · unfold tbM
        rw [if_neg (by omega)]
        unfold openM
        rw [u2_ne _ _ (by omega)]
        unfold opnRow
        rw [if_neg (by omega), u2_row _ _ (by decide)]
      · rw [u2_ne _ _ (by omega), u2_row _ _ (by decide)]
  have hV6 : V 1 6 = nI A2 := by
    rw [hV]
    unfold tbR
    by_cases z0 : MI b 0 = 0
    · rw [if_pos z0, u2_row _ _ (by decide), u2_row _ _ (by decide), hAr, hA2, if_neg (by rw [z0]; decide)]
    · rw [if_neg z0]
      by_cases z1 : MI b 0 = 1
      · rw [if_pos z1, hA2, if_pos z1]
        unfold tbM
        rw [if_neg (by omega)]
        exact u2_eq _ _ _ _
      · rw [if_neg z1, u2_ne _ _ (by omega), u2_row _ _ (by decide), hAr, hA2, if_neg z1]
  have hA8 : A2 ≤ 8 := by
    rw [hA2]
    split
    · rename_i z
      have := (h1 z).1
      omega
    · exact hA
  have htb : Cf X yX0_takeBack cX0_takeBack 3 (some .int) 3 [.ref 29] n SH MI ML MR (some (.int (MI b 0))) V ML MR := by
    rw [hV, hb]
    rw [hb] at h0 h1 h2
    exact c_X0_takeBack hM hR hK hK0 hk h0 (fun z => ⟨(h1 z).1, (h1 z).2.1, hAr, (h1 z).2.2⟩) h2
  refine Ct_of (by decide) (Nat.le_of_ble_eq_true rfl) (fun G hG => ?_)
  refine r_aload_n 0 rfl dX10_undo_0 ?_
  refine r_getr dX10_undo_1 fl_X10_28 rfl (hM _ _ _ rfl) ?_
  refine r_geti dX10_undo_4 fl_X10_106 rfl ?_
  refine r_ifgt (tgt := 17) dX10_undo_7 (by decide) (fun zh7 => ?_) (fun zh7 => ?_)
  rotate_left
  · exact absurd zh7 (fun q => q (by rw [hk]; exact nI_lt (a := 0) hK0 (by omega)))
  refine r_aload_n 0 rfl dX10_undo_17 ?_
  refine r_getr dX10_undo_18 fl_X10_28 rfl (hM _ _ _ rfl) ?_
  refine r_Vf [] dX10_undo_21 lk_X10_315 mb_X0_takeBack in_X0_takeBack se_X0_takeBack rfl (htb) rfl rfl rfl (Nat.le_of_ble_eq_true rfl) (rfl) ?_
  refine r_iconst (v := 2) rfl dX10_undo_24 ?_
  refine r_icmpne (tgt := 38) dX10_undo_25 (by decide) (fun zh25 => ?_) (fun zh25 => ?_)
  · refine r_aload_n 0 rfl dX10_undo_38 ?_
    refine r_Vn [] dX10_undo_39 lk_X10_109 mb_X10_studyAnew in_X10_studyAnew se_X10_studyAnew rfl (c_X10_studyAnew hM hSt hS (by rw [hV1 1 (by decide) (by decide)]; exact hSr) hA8 hV6) rfl rfl rfl (Nat.le_of_ble_eq_true rfl) (rfl) ?_
    refine r_aload_n 0 rfl dX10_undo_42 ?_
    refine r_iconst (v := 0) rfl dX10_undo_43 ?_
    refine r_puti dX10_undo_44 fl_X10_118 rfl rfl rfl ?_
    refine r_iconst (v := 1) rfl dX10_undo_47 ?_
    exact r_zret hG dX10_undo_48 (rfl) (by first | (rw [if_pos zh25, if_pos zh25]; exact ⟨rfl, by rw [hV1 3 (by decide) (by decide)]; rfl, rfl, rfl⟩) | (rw [if_neg zh25, if_neg zh25]; exact ⟨rfl, rfl, rfl, rfl⟩))
  · refine r_aload_n 0 rfl dX10_undo_28 ?_
    refine r_getr dX10_undo_29 fl_X10_64 rfl (hM _ _ _ rfl) ?_
    refine r_Vn [] dX10_undo_32 lk_X10_312 mb_X9_restart in_X9_restart se_X9_restart rfl (c_X9_restart hM) rfl rfl rfl (Nat.le_of_ble_eq_true rfl) (rfl) ?_
    refine r_goto (tgt := 42) dX10_undo_35 (by decide) ?_
    refine r_aload_n 0 rfl dX10_undo_42 ?_
    refine r_iconst (v := 0) rfl dX10_undo_43 ?_
    refine r_puti dX10_undo_44 fl_X10_118 rfl rfl rfl ?_
    refine r_iconst (v := 1) rfl dX10_undo_47 ?_
    exact r_zret hG dX10_undo_48 (rfl) (by first | (rw [if_pos zh25, if_pos zh25]; exact ⟨rfl, by rw [hV1 3 (by decide) (by decide)]; rfl, rfl, rfl⟩) | (rw [if_neg zh25, if_neg zh25]; exact ⟨rfl, rfl, rfl, rfl⟩))
/-! machine, of a text that is as long as said -/
set_option maxRecDepth 100000 in
theorem c_X10_machine_no (hM : x_Lay MR) {x : Int32} (h : x < 0 ∨ ¬ x ≤ MI 14 1) : Cf X yX10_machine cX10_machine 3 (some .int) 2 [.ref 0, .int x] n SH MI ML MR (some (.int (-1))) (ansM MI 2) ML MR := by
  refine Ct_of (by decide) (Nat.le_of_ble_eq_true rfl) (fun G hG => ?_)
  refine r_iload_n 1 rfl dX10_machine_0 ?_
  refine r_iflt (tgt := 15) dX10_machine_1 (by decide) (fun zh1 => ?_) (fun zh1 => ?_)
  · refine r_aload_n 0 rfl dX10_machine_15 ?_
    refine r_iconst (v := 2) rfl dX10_machine_16 ?_
    refine r_Vf [.int _] dX10_machine_17 lk_X10_86 mb_X10_refuse in_X10_refuse se_X10_refuse rfl (c_X10_refuse) rfl rfl rfl (Nat.le_of_ble_eq_true rfl) (rfl) ?_
    exact r_iret hG dX10_machine_20 (⟨rfl, rfl, rfl, rfl⟩)
  · refine r_iload_n 1 rfl dX10_machine_4 ?_
    refine r_aload_n 0 rfl dX10_machine_5 ?_
    refine r_getr dX10_machine_6 fl_X10_19 rfl (hM _ _ _ rfl) ?_
    refine r_geti dX10_machine_9 fl_X10_82 rfl ?_
    refine r_icmple (tgt := 21) dX10_machine_12 (by decide) (fun zh12 => ?_) (fun zh12 => ?_)
    · exact h.elim (fun z => absurd z zh1) (fun z => absurd zh12 z)
    · refine r_aload_n 0 rfl dX10_machine_15 ?_
      refine r_iconst (v := 2) rfl dX10_machine_16 ?_
      refine r_Vf [.int _] dX10_machine_17 lk_X10_86 mb_X10_refuse in_X10_refuse se_X10_refuse rfl (c_X10_refuse) rfl rfl rfl (Nat.le_of_ble_eq_true rfl) (rfl) ?_
      exact r_iret hG dX10_machine_20 (⟨rfl, rfl, rfl, rfl⟩)
def rdQ (MI : Nat → Nat → Int32) (L a0 : Nat) : Ps × Mi := rdsP L ((0, 0, MI 14 6, a0, 0, MI 14 9, MI 14 10), clearM (u2 MI 14 5 (nI L)) 16)
def mcM (MI : Nat → Nat → Int32) (L a0 : Nat) : Nat → Nat → Int32 := u2 (u2 (laP (rdQ MI L a0).2 (rdQ MI L a0).1) 14 1 0) 0 9 (rdQ MI L a0).1.1
def mcN (MI : Nat → Nat → Int32) (L a0 : Nat) : Nat → Nat → Int32 := u2 (tkG (mcM MI L a0) 16) 29 2 0
set_option maxRecDepth 100000 in
theorem c_X10_machine (hM : x_Lay MR) (hSt : x_St X) (hS2 : x_S2 X) {L a0 : Nat} (hL : L ≤ 600) (hu : nI L ≤ MI 14 1) (ha : MI 14 7 = nI a0) {S A : Nat} (hS : S ≤ 6) (hA : A ≤ 8) (h01 : mcM MI L a0 16 0 = 0 ∨ mcM MI L a0 16 0 = 1) (hSr : mcM MI L a0 16 1 = nI S) (hAr : mcM MI L a0 16 6 = nI A) : Cf X yX10_machine cX10_machine 3 (some .int) 10 [.ref 0, .int (nI L)] n SH MI ML MR (some (.int (if (rdQ MI L a0).1.1 = 0 then nI A else -1))) (if (rdQ MI L a0).1.1 = 0 then ansM (saM (mcN MI L a0) ML S A) 0 else ansM (mcM MI L a0) 4) (if (rdQ MI L a0).1.1 = 0 then saL (mcN MI L a0) ML S A else ML) MR := by
  have hn : ∀ j, j = 1 ∨ j = 6 → mcN MI L a0 1 j = mcM MI L a0 16 j := fun j hj => by
    unfold mcN
    rw [u2_row _ _ (by decide)]
    unfold tkG
    rw [if_neg (by omega)]
    unfold tkR
    rw [if_neg (by omega)]
    unfold tkC
    rw [if_neg (by omega)]
    unfold tkF
    rw [if_pos (by omega)]
  have h16 : saM (mcN MI L a0) ML S A 1 6 = nI A := by
    unfold saM
    rw [u2_row _ _ (by decide), u2_row _ _ (by decide), u2_row _ _ (by decide)]
    unfold zsM
    rw [if_neg (by omega), lkM_b (by omega), hn 6 (by decide), hAr]
  refine Ct_of (by decide) (Nat.le_of_ble_eq_true rfl) (fun G hG => ?_)
  refine r_iload_n 1 rfl dX10_machine_0 ?_
  refine r_iflt (tgt := 15) dX10_machine_1 (by decide) (fun zh1 => ?_) (fun zh1 => ?_)
  · exact absurd zh1 (nI_pos (by omega))
  refine r_iload_n 1 rfl dX10_machine_4 ?_
  refine r_aload_n 0 rfl dX10_machine_5 ?_
  refine r_getr dX10_machine_6 fl_X10_19 rfl (hM _ _ _ rfl) ?_
  refine r_geti dX10_machine_9 fl_X10_82 rfl ?_
  refine r_icmple (tgt := 21) dX10_machine_12 (by decide) (fun zh12 => ?_) (fun zh12 => ?_)
  rotate_left
  · exact absurd zh12 (fun q => q hu)
  refine r_aload_n 0 rfl dX10_machine_21 ?_
  refine r_getr dX10_machine_22 fl_X10_19 rfl (hM _ _ _ rfl) ?_
  refine r_iload_n 1 rfl dX10_machine_25 ?_
  refine r_Vf [.int _] dX10_machine_26 lk_X10_90 mb_X6_reads in_X6_reads se_X6_reads rfl (c_X6_reads hM hS2 hL ha (q := rdQ MI L a0) rfl) rfl rfl rfl (Nat.le_of_ble_eq_true rfl) (rfl) ?_
  refine r_nmi (fun zv29 ze29 => ?_)
  refine r_istore_n (ls2 := [(2, .int zv29), (0, .ref 0), (1, .int (nI L))]) dX10_machine_29 (by decide) rfl ?_
  refine r_aload_n 1 rfl dX10_machine_30 ?_
  refine r_getr dX10_machine_31 fl_X10_19 rfl (hM _ _ _ rfl) ?_
  refine r_iconst (v := 0) rfl dX10_machine_34 ?_
  refine r_puti dX10_machine_35 fl_X10_82 rfl rfl rfl ?_
  refine r_aload_n 1 rfl dX10_machine_38 ?_
  refine r_aload_n 1 rfl dX10_machine_39 ?_
  refine r_getr dX10_machine_40 fl_X10_19 rfl (hM _ _ _ rfl) ?_
  refine r_geti dX10_machine_43 fl_X10_94 rfl ?_
  refine r_puti dX10_machine_46 fl_X10_97 rfl rfl rfl ?_
  refine r_mem (MI2 := mcM MI L a0) rfl rfl rfl ?_
  refine r_iload_n 0 rfl dX10_machine_49 ?_
  refine r_ifne (tgt := 59) dX10_machine_50 (by decide) (fun zh50 => ?_) (fun zh50 => ?_)
  · rw [ze29] at zh50
    have hz : (rdQ MI L a0).1.1 = 0 := Classical.not_not.mp fun z => by rw [if_neg z] at zh50; exact zh50 rfl
    refine r_aload_n 1 rfl dX10_machine_59 ?_
    refine r_getr dX10_machine_60 fl_X10_10 rfl (hM _ _ _ rfl) ?_
    refine r_aload_n 1 rfl dX10_machine_63 ?_
    refine r_getr dX10_machine_64 fl_X10_19 rfl (hM _ _ _ rfl) ?_
    refine r_getr dX10_machine_67 fl_X10_100 rfl (hM _ _ _ rfl) ?_
    refine r_Vn [.ref _] dX10_machine_70 lk_X10_103 mb_X5_takeFrom in_X5_takeFrom se_X5_takeFrom rfl (c_X5_takeFrom_1 hM h01) rfl rfl rfl (Nat.le_of_ble_eq_true rfl) (rfl) ?_
    refine r_aload_n 1 rfl dX10_machine_73 ?_
    refine r_getr dX10_machine_74 fl_X10_28 rfl (hM _ _ _ rfl) ?_
    refine r_iconst (v := 0) rfl dX10_machine_77 ?_
    refine r_puti dX10_machine_78 fl_X10_106 rfl rfl rfl ?_
    refine r_mem (MI2 := mcN MI L a0) rfl rfl rfl ?_
    refine r_aload_n 1 rfl dX10_machine_81 ?_
    refine r_Vn [] dX10_machine_82 lk_X10_109 mb_X10_studyAnew in_X10_studyAnew se_X10_studyAnew rfl (c_X10_studyAnew (MI := mcN MI L a0) hM hSt hS (by rw [hn 1 (by decide)]; exact hSr) hA (by rw [hn 6 (by decide)]; exact hAr)) rfl rfl rfl (Nat.le_of_ble_eq_true rfl) (rfl) ?_
    refine r_aload_n 1 rfl dX10_machine_85 ?_
    refine r_aload_n 1 rfl dX10_machine_86 ?_
    refine r_getr dX10_machine_87 fl_X10_10 rfl (hM _ _ _ rfl) ?_
    refine r_geti dX10_machine_90 fl_X10_112 rfl ?_
    refine r_Vf [.int _] dX10_machine_93 lk_X10_115 mb_X10_told in_X10_told se_X10_told rfl (c_X10_told) rfl rfl rfl (Nat.le_of_ble_eq_true rfl) (rfl) ?_
    exact r_iret hG dX10_machine_96 (⟨by rw [h16, if_pos hz], by rw [if_pos hz]; rfl, by rw [if_pos hz], rfl⟩)
  · rw [ze29] at zh50
    have hz : ¬ (rdQ MI L a0).1.1 = 0 := fun z => by rw [if_pos z] at zh50; exact absurd zh50 (by decide)
    refine r_aload_n 1 rfl dX10_machine_53 ?_
    refine r_iconst (v := 4) rfl dX10_machine_54 ?_
    refine r_Vf [.int _] dX10_machine_55 lk_X10_86 mb_X10_refuse in_X10_refuse se_X10_refuse rfl (c_X10_refuse) rfl rfl rfl (Nat.le_of_ble_eq_true rfl) (rfl) ?_
    exact r_iret hG dX10_machine_58 (⟨by rw [if_neg hz], by rw [if_neg hz]; rfl, by rw [if_neg hz], rfl⟩)
end desk3

/-! Study: goAlong, the four seeks -/
def ini1 (t : Tg) (i : Nat) : Tg := (zeroI t.1 i, t.2.1, t.2.2.1, t.2.2.2.1, t.2.2.2.2.1, t.2.2.2.2.2)
def ini2 (t : Tg) (i : Nat) : Tg := (t.1, t.2.1, t.2.2.1, zeroI t.2.2.2.1 i, t.2.2.2.2.1, t.2.2.2.2.2)
/-- goAlong, from its tuple: b the begin, with its inputs and outputs -/
def goA (P : Nat → Nat → Int32) (A : Nat) (b bi bo : Int32) (t : Tg) : Tg := goT P A A (stT (ini2 (ini1 t 6) 8) b bi bo)
theorem nxO_lt {f : Nat → Int32} {A : Nat} {t : Tg} {i : Nat} (h : nxO f A t = some i) : i < A := List.mem_range.mp (List.mem_of_find?_eq_some h)
section study3
variable {X : xG} {n : Nat} {MI : Nat → Nat → Int32} {ML : Nat → Nat → Int64} {MR : Nat → Nat → Option Nat}
theorem t_goAlong (hM : x_Lay MR) {t : Tg} {A : Nat} (hA : A ≤ 8) (hAr : MI 1 6 = nI A) : Cf X yX8_goAlong cX8_goAlong 3 none 3 [.ref 43] n SH (laC MI t) ML MR none (laC MI (goA (arP MI) A (MI 1 3) (MI 1 4) (MI 1 5) t)) ML MR := by
  refine Ct_of (by decide) (Nat.le_of_ble_eq_true rfl) (fun G hG => ?_)
  have hAl : ∀ t, laC MI t 1 6 = nI A := fun t => by rw [laC_b t (by decide), hAr]
  have l3 : ∀ i, i ≤ A → ∀ t2, goT (arP MI) A (A - i) t2 = goA (arP MI) A (MI 1 3) (MI 1 4) (MI 1 5) t → RW X G RX8 cX8_goAlong 3 (x_rm 3 0 0) n SH (laC MI t2) ML MR 0 0 69 [(1, .int (nI i)), (0, .ref 43)] [] := by
    refine bwd (fun i hi ih t2 hgo => ?_)
    have hev : laC MI t2 43 6 = t2.2.2.2.2.1 := rfl
    refine r_iload_n 0 rfl dX8_goAlong_69 ?_
    refine r_aload_n 1 rfl dX8_goAlong_70 ?_
    refine r_getr dX8_goAlong_71 fl_X8_54 rfl (hM _ _ _ rfl) ?_
    refine r_geti dX8_goAlong_74 fl_X8_94 rfl ?_
    refine r_icmpge (tgt := 108) dX8_goAlong_77 (by decide) (fun zh77 => ?_) (fun zh77 => ?_)
    · exact r_vret hG dX8_goAlong_108 (⟨rfl, by first | (rw [hev] at zh84; rw [if_neg zh84] at hgo; rw [hgo]) | (rw [hAl] at zh77; have h9 := geL (k := A) (by omega) (by omega) zh77; rw [show A - i = 0 by omega, goT] at hgo; rw [hgo]), rfl, rfl⟩)
    · rw [hAl] at zh77
      have hlt : i < A := ltL (by omega) zh77
      rw [show A - i = (A - (i + 1)) + 1 by omega, goT] at hgo
      refine r_aload_n 1 rfl dX8_goAlong_80 ?_
      refine r_geti dX8_goAlong_81 fl_X8_58 rfl ?_
      refine r_ifne (tgt := 108) dX8_goAlong_84 (by decide) (fun zh84 => ?_) (fun zh84 => ?_)
      · exact r_vret hG dX8_goAlong_108 (⟨rfl, by first | (rw [hev] at zh84; rw [if_neg zh84] at hgo; rw [hgo]) | (rw [hAl] at zh77; have h9 := geL (k := A) (by omega) (by omega) zh77; rw [show A - i = 0 by omega, goT] at hgo; rw [hgo]), rfl, rfl⟩)
      · rw [hev] at zh84
        rw [if_pos zh84] at hgo
        refine r_aload_n 1 rfl dX8_goAlong_87 ?_
        refine r_Vf [] dX8_goAlong_88 lk_X8_97 mb_X8_nextArc in_X8_nextArc se_X8_nextArc rfl (t_nextArc hM hA hAr) rfl rfl rfl (Nat.le_of_ble_eq_true rfl) (rfl) ?_
        refine r_nmi (fun zv91 ze91 => ?_)
        refine r_istore_n (ls2 := [(2, .int zv91), (1, .int (nI i)), (0, .ref 43)]) dX8_goAlong_91 (by decide) rfl ?_
        refine r_iload_n 0 rfl dX8_goAlong_92 ?_
        refine r_ifge (tgt := 97) dX8_goAlong_93 (by decide) (fun zh93 => ?_) (fun zh93 => ?_)
        · obtain ⟨q, hn, rfl⟩ : ∃ q, nxO (fun i => arP MI i 0) A t2 = some q ∧ zv91 = nI q := by
            cases hn : nxO (fun i => arP MI i 0) A t2 with
            | none => rw [hn] at ze91; rw [ze91] at zh93; exact absurd zh93 (by decide)
            | some q => rw [hn] at ze91; exact ⟨q, rfl, ze91⟩
          have hqA := nxO_lt hn
          rw [hn] at hgo
          refine r_aload_n 2 rfl dX8_goAlong_97 ?_
          refine r_iload_n 0 rfl dX8_goAlong_98 ?_
          refine r_Vn [.int _] dX8_goAlong_99 lk_X8_101 mb_X8_follow in_X8_follow se_X8_follow rfl (t_follow hM (show q < 8 by omega)) rfl rfl rfl (Nat.le_of_ble_eq_true rfl) (rfl) ?_
          refine r_iinc (v := (nI (i + 1))) (ls2 := [(1, .int (nI (i + 1))), (2, .int (nI q)), (0, .ref 43)]) 1 dX8_goAlong_102 rfl (x_inc i) (by decide) rfl ?_
          refine r_goto (tgt := 69) dX8_goAlong_105 (by decide) ?_
          exact r_sub [0, 2] rfl (ih hlt _ hgo)
        · have hn : nxO (fun i => arP MI i 0) A t2 = none := by
            cases hn : nxO (fun i => arP MI i 0) A t2 with
            | none => rfl
            | some q => rw [hn] at ze91; have := nxO_lt hn; rw [ze91] at zh93; exact absurd (nI_pos' (n := q) (by omega)) zh93
          rw [hn] at hgo
          exact r_vret hG dX8_goAlong_96 (⟨rfl, by rw [← hgo], rfl, rfl⟩)
  have l2 : ∀ i, i ≤ 8 → RW X G RX8 cX8_goAlong 3 (x_rm 3 0 0) n SH (laC MI (ini2 (ini1 t 6) i)) ML MR 0 0 23 [(1, .int (nI i)), (0, .ref 43)] [] := by
    refine bwd (fun i hi ih => ?_)
    refine r_iload_n 0 rfl dX8_goAlong_23 ?_
    refine r_bipush (v := 8) rfl dX8_goAlong_24 ?_
    refine r_icmpge (tgt := 42) dX8_goAlong_26 (by decide) (fun zh26 => ?_) (fun zh26 => ?_)
    · obtain rfl : i = 8 := by have := geL (k := 8) (by decide) (by omega) zh26; omega
      refine r_aload_n 1 rfl dX8_goAlong_42 ?_
      refine r_aload_n 1 rfl dX8_goAlong_43 ?_
      refine r_getr dX8_goAlong_44 fl_X8_54 rfl (hM _ _ _ rfl) ?_
      refine r_geti dX8_goAlong_47 fl_X8_79 rfl ?_
      refine r_aload_n 1 rfl dX8_goAlong_50 ?_
      refine r_getr dX8_goAlong_51 fl_X8_54 rfl (hM _ _ _ rfl) ?_
      refine r_geti dX8_goAlong_54 fl_X8_84 rfl ?_
      refine r_aload_n 1 rfl dX8_goAlong_57 ?_
      refine r_getr dX8_goAlong_58 fl_X8_54 rfl (hM _ _ _ rfl) ?_
      refine r_geti dX8_goAlong_61 fl_X8_87 rfl ?_
      refine r_Vn [.int _, .int _, .int _] dX8_goAlong_64 lk_X8_90 mb_X8_setValues in_X8_setValues se_X8_setValues rfl (t_setValues hM) rfl rfl rfl (Nat.le_of_ble_eq_true rfl) (rfl) ?_
      refine r_iconst (v := 0) rfl dX8_goAlong_67 ?_
      refine r_istore_n (ls2 := [(1, .int 0), (0, .ref 43)]) dX8_goAlong_68 (by decide) rfl ?_
      exact l3 0 (by omega) _ rfl
    · have hlt : i < 8 := ltL (by omega) zh26
      refine r_aload_n 1 rfl dX8_goAlong_29 ?_
      refine r_getr dX8_goAlong_30 fl_X8_22 rfl (hM _ _ _ rfl) ?_
      refine r_iload_n 0 rfl dX8_goAlong_33 ?_
      refine r_iconst (v := 0) rfl dX8_goAlong_34 ?_
      refine r_zast dX8_goAlong_35 rfl (vp_in_nI hlt (by decide)) ?_
      refine r_iinc (v := (nI (i + 1))) (ls2 := [(1, .int (nI (i + 1))), (0, .ref 43)]) 0 dX8_goAlong_36 rfl (x_inc i) (by decide) rfl ?_
      refine r_goto (tgt := 23) dX8_goAlong_39 (by decide) ?_
      refine r_mem ?_ rfl rfl (ih hlt)
      rw [nI_clamp (by omega), show vp_nar .boolean 0 = 0 from rfl]
      funext b j
      simp only [u2, laC, ini1, ini2, zeroI]
      grind
  have l1 : ∀ i, i ≤ 6 → RW X G RX8 cX8_goAlong 3 (x_rm 3 0 0) n SH (laC MI (ini1 t i)) ML MR 0 0 2 [(1, .int (nI i)), (0, .ref 43)] [] := by
    refine bwd (fun i hi ih => ?_)
    refine r_iload_n 0 rfl dX8_goAlong_2 ?_
    refine r_bipush (v := 6) rfl dX8_goAlong_3 ?_
    refine r_icmpge (tgt := 21) dX8_goAlong_5 (by decide) (fun zh5 => ?_) (fun zh5 => ?_)
    · obtain rfl : i = 6 := by have := geL (k := 6) (by decide) (by omega) zh5; omega
      refine r_iconst (v := 0) rfl dX8_goAlong_21 ?_
      refine r_istore_n (ls2 := [(1, .int 0), (0, .ref 43)]) dX8_goAlong_22 (by decide) rfl ?_
      refine r_mem ?_ rfl rfl (l2 0 (by decide))
      funext b j
      simp only [laC, ini2, zeroI]
      grind
    · have hlt : i < 6 := ltL (by omega) zh5
      refine r_aload_n 1 rfl dX8_goAlong_8 ?_
      refine r_getr dX8_goAlong_9 fl_X8_18 rfl (hM _ _ _ rfl) ?_
      refine r_iload_n 0 rfl dX8_goAlong_12 ?_
      refine r_iconst (v := 0) rfl dX8_goAlong_13 ?_
      refine r_zast dX8_goAlong_14 rfl (vp_in_nI hlt (by decide)) ?_
      refine r_iinc (v := (nI (i + 1))) (ls2 := [(1, .int (nI (i + 1))), (0, .ref 43)]) 0 dX8_goAlong_15 rfl (x_inc i) (by decide) rfl ?_
      refine r_goto (tgt := 2) dX8_goAlong_18 (by decide) ?_
      refine r_mem ?_ rfl rfl (ih hlt)
      rw [nI_clamp (by omega), show vp_nar .boolean 0 = 0 from rfl]
      funext b j
      simp only [u2, laC, ini1, zeroI]
      grind
  refine r_iconst (v := 0) rfl dX8_goAlong_0 ?_
  refine r_istore_n (ls2 := [(1, .int 0), (0, .ref 43)]) dX8_goAlong_1 (by decide) rfl ?_
  refine r_mem ?_ rfl rfl (l1 0 (by decide))
  funext b j
  simp only [laC, ini1, zeroI]
  grind
theorem t_seekValueless (hM : x_Lay MR) {t : Tg} {S : Nat} (hS : S ≤ 6) (hSr : MI 1 1 = nI S) : Cf X yX8_seekValueless cX8_seekValueless 2 none 2 [.ref 43] n SH (laC MI t) ML MR none (laC MI (vlT S t)) ML MR := by
  refine Ct_of (by decide) (Nat.le_of_ble_eq_true rfl) (fun G hG => ?_)
  have hSl : ∀ t, laC MI t 1 1 = nI S := fun t => by rw [laC_b t (by decide), hSr]
  have loop : ∀ i, i ≤ S → RW X G RX8 cX8_seekValueless 2 (x_rm 2 0 0) n SH (laC MI (vlT i t)) ML MR 0 0 2 [(1, .int (nI i)), (0, .ref 43)] [] := by
    refine bwd (fun i hi ih => ?_)
    refine r_iload_n 0 rfl dX8_seekValueless_2 ?_
    refine r_aload_n 1 rfl dX8_seekValueless_3 ?_
    refine r_getr dX8_seekValueless_4 fl_X8_54 rfl (hM _ _ _ rfl) ?_
    refine r_geti dX8_seekValueless_7 fl_X8_121 rfl ?_
    refine r_icmpge (tgt := 33) dX8_seekValueless_10 (by decide) (fun zh10 => ?_) (fun zh10 => ?_)
    · rw [hSl] at zh10
      obtain rfl : i = S := by have := geL (k := S) (by omega) (by omega) zh10; omega
      exact r_vret hG dX8_seekValueless_33 (⟨rfl, rfl, rfl, rfl⟩)
    · rw [hSl] at zh10
      have hlt : i < S := ltL (by omega) zh10
      refine r_aload_n 1 rfl dX8_seekValueless_13 ?_
      refine r_iload_n 0 rfl dX8_seekValueless_14 ?_
      refine r_Vf [.int _] dX8_seekValueless_15 lk_X8_109 mb_X8_hasValues in_X8_hasValues se_X8_hasValues rfl (t_hasValues hM) rfl rfl rfl (Nat.le_of_ble_eq_true rfl) (rfl) ?_
      refine r_ifne (tgt := 27) dX8_seekValueless_18 (by decide) (fun zh18 => ?_) (fun zh18 => ?_)
      · refine r_iinc (v := (nI (i + 1))) (ls2 := [(1, .int (nI (i + 1))), (0, .ref 43)]) 0 dX8_seekValueless_27 rfl (x_inc i) (by decide) rfl ?_
        refine r_goto (tgt := 2) dX8_seekValueless_30 (by decide) ?_
        refine r_mem (congrArg (laC MI) ?_) rfl rfl (ih hlt)
        rw [vlT]
        simp_all
      · refine r_aload_n 1 rfl dX8_seekValueless_21 ?_
        refine r_iconst (v := 3) rfl dX8_seekValueless_22 ?_
        refine r_iload_n 0 rfl dX8_seekValueless_23 ?_
        refine r_Vn [.int _, .int _] dX8_seekValueless_24 lk_X8_117 mb_X8_spoil in_X8_spoil se_X8_spoil rfl (t_spoil) rfl rfl rfl (Nat.le_of_ble_eq_true rfl) (rfl) ?_
        refine r_iinc (v := (nI (i + 1))) (ls2 := [(1, .int (nI (i + 1))), (0, .ref 43)]) 0 dX8_seekValueless_27 rfl (x_inc i) (by decide) rfl ?_
        refine r_goto (tgt := 2) dX8_seekValueless_30 (by decide) ?_
        refine r_mem (congrArg (laC MI) ?_) rfl rfl (ih hlt)
        rw [vlT]
        simp_all
  refine r_iconst (v := 0) rfl dX8_seekValueless_0 ?_
  refine r_istore_n (ls2 := [(1, .int 0), (0, .ref 43)]) dX8_seekValueless_1 (by decide) rfl ?_
  exact loop 0 (by omega)
theorem t_seekInner (hM : x_Lay MR) {t : Tg} {A : Nat} (hA : A ≤ 8) (hAr : MI 1 6 = nI A) : Cf X yX8_seekInner cX8_seekInner 4 none 3 [.ref 43] n SH (laC MI t) ML MR none (laC MI (inT (arP MI) A A t)) ML MR := by
  refine Ct_of (by decide) (Nat.le_of_ble_eq_true rfl) (fun G hG => ?_)
  have hAl : ∀ t, laC MI t 1 6 = nI A := fun t => by rw [laC_b t (by decide), hAr]
  have hp0 : ∀ i, i < A → partV MI 1 (nI i) 0 = arP MI i 0 := fun i h => arP_nI (j := 0) (by omega) (by decide)
  have hbu : ∀ i, i < A → burstV MI 1 (nI i) = (arP MI i 2 ||| arP MI i 3) := fun i h => by unfold burstV; rw [show partV MI 1 (nI i) 2 = arP MI i 2 from arP_nI (j := 2) (by omega) (by decide), show partV MI 1 (nI i) 3 = arP MI i 3 from arP_nI (j := 3) (by omega) (by decide)]
  have loop : ∀ i, i ≤ A → RW X G RX8 cX8_seekInner 4 (x_rm 3 0 0) n SH (laC MI (inT (arP MI) A i t)) ML MR 0 0 2 [(1, .int (nI i)), (0, .ref 43)] [] := by
    refine bwd (fun i hi ih => ?_)
    have inner : i < A → ∀ k, k ≤ A → RW X G RX8 cX8_seekInner 4 (x_rm 3 0 0) n SH (laC MI (inT1 (arP MI) i k (inT (arP MI) A i t))) ML MR 0 0 15 [(2, .int (nI k)), (1, .int (nI i)), (0, .ref 43)] [] := by
      intro hiA
      refine bwd (fun k hk ihk => ?_)
      refine r_iload_n 0 rfl dX8_seekInner_15 ?_
      refine r_aload_n 2 rfl dX8_seekInner_16 ?_
      refine r_getr dX8_seekInner_17 fl_X8_54 rfl (hM _ _ _ rfl) ?_
      refine r_geti dX8_seekInner_20 fl_X8_94 rfl ?_
      refine r_icmpge (tgt := 96) dX8_seekInner_23 (by decide) (fun zh23 => ?_) (fun zh23 => ?_)
      · rw [hAl] at zh23
        have hke : k = A := by have := geL (k := A) (by omega) (by omega) zh23; omega
        refine r_iinc (v := (nI (i + 1))) (ls2 := [(1, .int (nI (i + 1))), (2, .int (nI k)), (0, .ref 43)]) 1 dX8_seekInner_96 rfl (x_inc i) (by decide) rfl ?_
        refine r_goto (tgt := 2) dX8_seekInner_99 (by decide) ?_
        subst hke
        exact r_sub [0, 2] rfl (ih hiA)
      · rw [hAl] at zh23
        have hkA : k < A := ltL (by omega) zh23
        have hq := hp0 i hiA
        have hq2 := hp0 k hkA
        have hb1 := hbu i hiA
        have hb2 := hbu k hkA
        have hki := nI_eq (a := k) (b := i) (by omega) (by omega)
        refine r_iload_n 0 rfl dX8_seekInner_26 ?_
        refine r_iload_n 1 rfl dX8_seekInner_27 ?_
        refine r_icmpeq (tgt := 56) dX8_seekInner_28 (by decide) (fun zh28 => ?_) (fun zh28 => ?_)
        · refine r_iconst (v := 0) rfl dX8_seekInner_56 ?_
          refine r_istore_n (ls2 := [(3, .int 0), (2, .int (nI k)), (1, .int (nI i)), (0, .ref 43)]) dX8_seekInner_57 (by decide) rfl ?_
          refine r_iload_n 0 rfl dX8_seekInner_58 ?_
          refine r_ifeq (tgt := 90) dX8_seekInner_59 (by decide) (fun zh59 => ?_) (fun zh59 => ?_)
          · refine r_iinc (v := (nI (k + 1))) (ls2 := [(2, .int (nI (k + 1))), (3, .int 0), (1, .int (nI i)), (0, .ref 43)]) 1 dX8_seekInner_90 rfl (x_inc k) (by decide) rfl ?_
            refine r_goto (tgt := 15) dX8_seekInner_93 (by decide) ?_
            refine r_mem (congrArg (laC MI) ?_) rfl rfl (r_sub [0, 2, 3] rfl (ihk hkA))
            rw [inT1]
            simp_all
          · refine r_aload_n 3 rfl dX8_seekInner_62 ?_
            refine r_getr dX8_seekInner_63 fl_X8_54 rfl (hM _ _ _ rfl) ?_
            refine r_iload_n 2 rfl dX8_seekInner_66 ?_
            refine r_Vf [.int _] dX8_seekInner_67 lk_X8_124 mb_X5_burstInputs in_X5_burstInputs se_X5_burstInputs rfl (t_burst hM) rfl rfl rfl (Nat.le_of_ble_eq_true rfl) (rfl) ?_
            refine r_aload_n 3 rfl dX8_seekInner_70 ?_
            refine r_getr dX8_seekInner_71 fl_X8_54 rfl (hM _ _ _ rfl) ?_
            refine r_iload_n 1 rfl dX8_seekInner_74 ?_
            refine r_Vf [.int _] dX8_seekInner_75 lk_X8_124 mb_X5_burstInputs in_X5_burstInputs se_X5_burstInputs rfl (t_burst hM) rfl rfl rfl (Nat.le_of_ble_eq_true rfl) (rfl) ?_
            refine r_iconst (v := (-1)) rfl dX8_seekInner_78 ?_
            refine r_ixor dX8_seekInner_79 ?_
            refine r_iand dX8_seekInner_80 ?_
            refine r_ifne (tgt := 90) dX8_seekInner_81 (by decide) (fun zh81 => ?_) (fun zh81 => ?_)
            · refine r_iinc (v := (nI (k + 1))) (ls2 := [(2, .int (nI (k + 1))), (3, .int 0), (1, .int (nI i)), (0, .ref 43)]) 1 dX8_seekInner_90 rfl (x_inc k) (by decide) rfl ?_
              refine r_goto (tgt := 15) dX8_seekInner_93 (by decide) ?_
              refine r_mem (congrArg (laC MI) ?_) rfl rfl (r_sub [0, 2, 3] rfl (ihk hkA))
              rw [inT1]
              simp_all
            · refine r_aload_n 3 rfl dX8_seekInner_84 ?_
              refine r_iconst (v := 4) rfl dX8_seekInner_85 ?_
              refine r_iload_n 2 rfl dX8_seekInner_86 ?_
              refine r_Vn [.int _, .int _] dX8_seekInner_87 lk_X8_117 mb_X8_spoil in_X8_spoil se_X8_spoil rfl (t_spoil) rfl rfl rfl (Nat.le_of_ble_eq_true rfl) (rfl) ?_
              refine r_iinc (v := (nI (k + 1))) (ls2 := [(2, .int (nI (k + 1))), (3, .int 0), (1, .int (nI i)), (0, .ref 43)]) 1 dX8_seekInner_90 rfl (x_inc k) (by decide) rfl ?_
              refine r_goto (tgt := 15) dX8_seekInner_93 (by decide) ?_
              refine r_mem (congrArg (laC MI) ?_) rfl rfl (r_sub [0, 2, 3] rfl (ihk hkA))
              rw [inT1]
              simp_all
        · refine r_aload_n 2 rfl dX8_seekInner_31 ?_
          refine r_getr dX8_seekInner_32 fl_X8_54 rfl (hM _ _ _ rfl) ?_
          refine r_iload_n 1 rfl dX8_seekInner_35 ?_
          refine r_iconst (v := 0) rfl dX8_seekInner_36 ?_
          refine r_Vf [.int _, .int _] dX8_seekInner_37 lk_X8_105 mb_X5_part in_X5_part se_X5_part rfl (t_part hM) rfl rfl rfl (Nat.le_of_ble_eq_true rfl) (rfl) ?_
          refine r_aload_n 2 rfl dX8_seekInner_40 ?_
          refine r_getr dX8_seekInner_41 fl_X8_54 rfl (hM _ _ _ rfl) ?_
          refine r_iload_n 0 rfl dX8_seekInner_44 ?_
          refine r_iconst (v := 0) rfl dX8_seekInner_45 ?_
          refine r_Vf [.int _, .int _] dX8_seekInner_46 lk_X8_105 mb_X5_part in_X5_part se_X5_part rfl (t_part hM) rfl rfl rfl (Nat.le_of_ble_eq_true rfl) (rfl) ?_
          refine r_icmpne (tgt := 56) dX8_seekInner_49 (by decide) (fun zh49 => ?_) (fun zh49 => ?_)
          · refine r_iconst (v := 0) rfl dX8_seekInner_56 ?_
            refine r_istore_n (ls2 := [(3, .int 0), (2, .int (nI k)), (1, .int (nI i)), (0, .ref 43)]) dX8_seekInner_57 (by decide) rfl ?_
            refine r_iload_n 0 rfl dX8_seekInner_58 ?_
            refine r_ifeq (tgt := 90) dX8_seekInner_59 (by decide) (fun zh59 => ?_) (fun zh59 => ?_)
            · refine r_iinc (v := (nI (k + 1))) (ls2 := [(2, .int (nI (k + 1))), (3, .int 0), (1, .int (nI i)), (0, .ref 43)]) 1 dX8_seekInner_90 rfl (x_inc k) (by decide) rfl ?_
              refine r_goto (tgt := 15) dX8_seekInner_93 (by decide) ?_
              refine r_mem (congrArg (laC MI) ?_) rfl rfl (r_sub [0, 2, 3] rfl (ihk hkA))
              rw [inT1]
              simp_all
            · refine r_aload_n 3 rfl dX8_seekInner_62 ?_
              refine r_getr dX8_seekInner_63 fl_X8_54 rfl (hM _ _ _ rfl) ?_
              refine r_iload_n 2 rfl dX8_seekInner_66 ?_
              refine r_Vf [.int _] dX8_seekInner_67 lk_X8_124 mb_X5_burstInputs in_X5_burstInputs se_X5_burstInputs rfl (t_burst hM) rfl rfl rfl (Nat.le_of_ble_eq_true rfl) (rfl) ?_
              refine r_aload_n 3 rfl dX8_seekInner_70 ?_
              refine r_getr dX8_seekInner_71 fl_X8_54 rfl (hM _ _ _ rfl) ?_
              refine r_iload_n 1 rfl dX8_seekInner_74 ?_
              refine r_Vf [.int _] dX8_seekInner_75 lk_X8_124 mb_X5_burstInputs in_X5_burstInputs se_X5_burstInputs rfl (t_burst hM) rfl rfl rfl (Nat.le_of_ble_eq_true rfl) (rfl) ?_
              refine r_iconst (v := (-1)) rfl dX8_seekInner_78 ?_
              refine r_ixor dX8_seekInner_79 ?_
              refine r_iand dX8_seekInner_80 ?_
              refine r_ifne (tgt := 90) dX8_seekInner_81 (by decide) (fun zh81 => ?_) (fun zh81 => ?_)
              · refine r_iinc (v := (nI (k + 1))) (ls2 := [(2, .int (nI (k + 1))), (3, .int 0), (1, .int (nI i)), (0, .ref 43)]) 1 dX8_seekInner_90 rfl (x_inc k) (by decide) rfl ?_
                refine r_goto (tgt := 15) dX8_seekInner_93 (by decide) ?_
                refine r_mem (congrArg (laC MI) ?_) rfl rfl (r_sub [0, 2, 3] rfl (ihk hkA))
                rw [inT1]
                simp_all
              · refine r_aload_n 3 rfl dX8_seekInner_84 ?_
                refine r_iconst (v := 4) rfl dX8_seekInner_85 ?_
                refine r_iload_n 2 rfl dX8_seekInner_86 ?_
                refine r_Vn [.int _, .int _] dX8_seekInner_87 lk_X8_117 mb_X8_spoil in_X8_spoil se_X8_spoil rfl (t_spoil) rfl rfl rfl (Nat.le_of_ble_eq_true rfl) (rfl) ?_
                refine r_iinc (v := (nI (k + 1))) (ls2 := [(2, .int (nI (k + 1))), (3, .int 0), (1, .int (nI i)), (0, .ref 43)]) 1 dX8_seekInner_90 rfl (x_inc k) (by decide) rfl ?_
                refine r_goto (tgt := 15) dX8_seekInner_93 (by decide) ?_
                refine r_mem (congrArg (laC MI) ?_) rfl rfl (r_sub [0, 2, 3] rfl (ihk hkA))
                rw [inT1]
                simp_all
          · refine r_iconst (v := 1) rfl dX8_seekInner_52 ?_
            refine r_goto (tgt := 57) dX8_seekInner_53 (by decide) ?_
            refine r_istore_n (ls2 := [(3, .int 1), (2, .int (nI k)), (1, .int (nI i)), (0, .ref 43)]) dX8_seekInner_57 (by decide) rfl ?_
            refine r_iload_n 0 rfl dX8_seekInner_58 ?_
            refine r_ifeq (tgt := 90) dX8_seekInner_59 (by decide) (fun zh59 => ?_) (fun zh59 => ?_)
            · refine r_iinc (v := (nI (k + 1))) (ls2 := [(2, .int (nI (k + 1))), (3, .int 1), (1, .int (nI i)), (0, .ref 43)]) 1 dX8_seekInner_90 rfl (x_inc k) (by decide) rfl ?_
              refine r_goto (tgt := 15) dX8_seekInner_93 (by decide) ?_
              refine r_mem (congrArg (laC MI) ?_) rfl rfl (r_sub [0, 2, 3] rfl (ihk hkA))
              rw [inT1]
              simp_all
            · refine r_aload_n 3 rfl dX8_seekInner_62 ?_
              refine r_getr dX8_seekInner_63 fl_X8_54 rfl (hM _ _ _ rfl) ?_
              refine r_iload_n 2 rfl dX8_seekInner_66 ?_
              refine r_Vf [.int _] dX8_seekInner_67 lk_X8_124 mb_X5_burstInputs in_X5_burstInputs se_X5_burstInputs rfl (t_burst hM) rfl rfl rfl (Nat.le_of_ble_eq_true rfl) (rfl) ?_
              refine r_aload_n 3 rfl dX8_seekInner_70 ?_
              refine r_getr dX8_seekInner_71 fl_X8_54 rfl (hM _ _ _ rfl) ?_
              refine r_iload_n 1 rfl dX8_seekInner_74 ?_
              refine r_Vf [.int _] dX8_seekInner_75 lk_X8_124 mb_X5_burstInputs in_X5_burstInputs se_X5_burstInputs rfl (t_burst hM) rfl rfl rfl (Nat.le_of_ble_eq_true rfl) (rfl) ?_
              refine r_iconst (v := (-1)) rfl dX8_seekInner_78 ?_
              refine r_ixor dX8_seekInner_79 ?_
              refine r_iand dX8_seekInner_80 ?_
              refine r_ifne (tgt := 90) dX8_seekInner_81 (by decide) (fun zh81 => ?_) (fun zh81 => ?_)
              · refine r_iinc (v := (nI (k + 1))) (ls2 := [(2, .int (nI (k + 1))), (3, .int 1), (1, .int (nI i)), (0, .ref 43)]) 1 dX8_seekInner_90 rfl (x_inc k) (by decide) rfl ?_
                refine r_goto (tgt := 15) dX8_seekInner_93 (by decide) ?_
                refine r_mem (congrArg (laC MI) ?_) rfl rfl (r_sub [0, 2, 3] rfl (ihk hkA))
                rw [inT1]
                simp_all
              · refine r_aload_n 3 rfl dX8_seekInner_84 ?_
                refine r_iconst (v := 4) rfl dX8_seekInner_85 ?_
                refine r_iload_n 2 rfl dX8_seekInner_86 ?_
                refine r_Vn [.int _, .int _] dX8_seekInner_87 lk_X8_117 mb_X8_spoil in_X8_spoil se_X8_spoil rfl (t_spoil) rfl rfl rfl (Nat.le_of_ble_eq_true rfl) (rfl) ?_
                refine r_iinc (v := (nI (k + 1))) (ls2 := [(2, .int (nI (k + 1))), (3, .int 1), (1, .int (nI i)), (0, .ref 43)]) 1 dX8_seekInner_90 rfl (x_inc k) (by decide) rfl ?_
                refine r_goto (tgt := 15) dX8_seekInner_93 (by decide) ?_
                refine r_mem (congrArg (laC MI) ?_) rfl rfl (r_sub [0, 2, 3] rfl (ihk hkA))
                rw [inT1]
                simp_all
    refine r_iload_n 0 rfl dX8_seekInner_2 ?_
    refine r_aload_n 1 rfl dX8_seekInner_3 ?_
    refine r_getr dX8_seekInner_4 fl_X8_54 rfl (hM _ _ _ rfl) ?_
    refine r_geti dX8_seekInner_7 fl_X8_94 rfl ?_
    refine r_icmpge (tgt := 102) dX8_seekInner_10 (by decide) (fun zh10 => ?_) (fun zh10 => ?_)
    · rw [hAl] at zh10
      obtain rfl : i = A := by have := geL (k := A) (by omega) (by omega) zh10; omega
      exact r_vret hG dX8_seekInner_102 (⟨rfl, rfl, rfl, rfl⟩)
    · rw [hAl] at zh10
      have hlt : i < A := ltL (by omega) zh10
      refine r_iconst (v := 0) rfl dX8_seekInner_13 ?_
      refine r_istore_n (ls2 := [(2, .int 0), (1, .int (nI i)), (0, .ref 43)]) dX8_seekInner_14 (by decide) rfl ?_
      exact inner hlt 0 (by omega)
  refine r_iconst (v := 0) rfl dX8_seekInner_0 ?_
  refine r_istore_n (ls2 := [(1, .int 0), (0, .ref 43)]) dX8_seekInner_1 (by decide) rfl ?_
  exact loop 0 (by omega)
theorem t_pointIn (hM : x_Lay MR) {t : Tg} {x : Int32} : Cf X yX8_pointIn cX8_pointIn 3 (some .int) 2 [.ref 43, .ref 2, .int x] n SH (laC MI t) ML MR (some (.int (pointV t.2.1 (MI 2) x))) (laC MI t) ML MR := by
  have h := c_X8_pointIn (X := X) (n := n) (MI := laC MI t) (ML := ML) (MR := MR) (x := x) hM (ca := 2) rfl
  rw [laC_b t (b := 2) (by decide)] at h
  exact h
theorem t_valuesIn (hM : x_Lay MR) {t : Tg} {x : Int32} : Cf X yX8_valuesIn cX8_valuesIn 3 (some .int) 2 [.ref 43, .ref 2, .int x] n SH (laC MI t) ML MR (some (.int (valV t.2.2.1 (MI 2) x))) (laC MI t) ML MR := by
  have h := c_X8_valuesIn (X := X) (n := n) (MI := laC MI t) (ML := ML) (MR := MR) (x := x) hM (ca := 2) rfl
  rw [laC_b t (b := 2) (by decide)] at h
  exact h
theorem t_seekTwins (hM : x_Lay MR) {t : Tg} {S : Nat} (hS : S ≤ 6) (hSr : MI 1 1 = nI S) : Cf X yX8_seekTwins cX8_seekTwins 4 none 3 [.ref 43] n SH (laC MI t) ML MR none (laC MI (twT (MI 2) S t)) ML MR := by
  refine Ct_of (by decide) (Nat.le_of_ble_eq_true rfl) (fun G hG => ?_)
  have hSl : ∀ t, laC MI t 1 1 = nI S := fun t => by rw [laC_b t (by decide), hSr]
  have loop : ∀ i, i ≤ S → RW X G RX8 cX8_seekTwins 4 (x_rm 3 0 0) n SH (laC MI (twT (MI 2) i t)) ML MR 0 0 2 [(1, .int (nI i)), (0, .ref 43)] [] := by
    refine bwd (fun i hi ih => ?_)
    have inner : i < S → ∀ k, k ≤ i → RW X G RX8 cX8_seekTwins 4 (x_rm 3 0 0) n SH (laC MI (twT1 (MI 2) i k (twT (MI 2) i t))) ML MR 0 0 15 [(2, .int (nI k)), (1, .int (nI i)), (0, .ref 43)] [] := by
      intro hiA
      refine bwd (fun k hk ihk => ?_)
      refine r_iload_n 0 rfl dX8_seekTwins_15 ?_
      refine r_iload_n 1 rfl dX8_seekTwins_16 ?_
      refine r_icmpge (tgt := 88) dX8_seekTwins_17 (by decide) (fun zh17 => ?_) (fun zh17 => ?_)
      · have hke : k = i := by have := geL (k := i) (by omega) (by omega) zh17; omega
        refine r_iinc (v := (nI (i + 1))) (ls2 := [(1, .int (nI (i + 1))), (2, .int (nI k)), (0, .ref 43)]) 1 dX8_seekTwins_88 rfl (x_inc i) (by decide) rfl ?_
        refine r_goto (tgt := 2) dX8_seekTwins_91 (by decide) ?_
        subst hke
        exact r_sub [0, 2] rfl (ih hiA)
      · have hkA : k < i := ltL (by omega) zh17
        refine r_aload_n 2 rfl dX8_seekTwins_20 ?_
        refine r_aload_n 2 rfl dX8_seekTwins_21 ?_
        refine r_getr dX8_seekTwins_22 fl_X8_54 rfl (hM _ _ _ rfl) ?_
        refine r_getr dX8_seekTwins_25 fl_X8_128 rfl (hM _ _ _ rfl) ?_
        refine r_iload_n 1 rfl dX8_seekTwins_28 ?_
        refine r_Vf [.ref _, .int _] dX8_seekTwins_29 lk_X8_131 mb_X8_pointIn in_X8_pointIn se_X8_pointIn rfl (t_pointIn hM) rfl rfl rfl (Nat.le_of_ble_eq_true rfl) (rfl) ?_
        refine r_aload_n 2 rfl dX8_seekTwins_32 ?_
        refine r_aload_n 2 rfl dX8_seekTwins_33 ?_
        refine r_getr dX8_seekTwins_34 fl_X8_54 rfl (hM _ _ _ rfl) ?_
        refine r_getr dX8_seekTwins_37 fl_X8_128 rfl (hM _ _ _ rfl) ?_
        refine r_iload_n 0 rfl dX8_seekTwins_40 ?_
        refine r_Vf [.ref _, .int _] dX8_seekTwins_41 lk_X8_131 mb_X8_pointIn in_X8_pointIn se_X8_pointIn rfl (t_pointIn hM) rfl rfl rfl (Nat.le_of_ble_eq_true rfl) (rfl) ?_
        refine r_icmpne (tgt := 51) dX8_seekTwins_44 (by decide) (fun zh44 => ?_) (fun zh44 => ?_)
        · refine r_iconst (v := 0) rfl dX8_seekTwins_51 ?_
          refine r_istore_n (ls2 := [(3, .int 0), (2, .int (nI k)), (1, .int (nI i)), (0, .ref 43)]) dX8_seekTwins_52 (by decide) rfl ?_
          refine r_iload_n 0 rfl dX8_seekTwins_53 ?_
          refine r_ifeq (tgt := 82) dX8_seekTwins_54 (by decide) (fun zh54 => ?_) (fun zh54 => ?_)
          · refine r_iinc (v := (nI (k + 1))) (ls2 := [(2, .int (nI (k + 1))), (3, .int 0), (1, .int (nI i)), (0, .ref 43)]) 1 dX8_seekTwins_82 rfl (x_inc k) (by decide) rfl ?_
            refine r_goto (tgt := 15) dX8_seekTwins_85 (by decide) ?_
            refine r_mem (congrArg (laC MI) ?_) rfl rfl (r_sub [0, 2, 3] rfl (ihk hkA))
            rw [twT1]
            simp_all
          · refine r_aload_n 3 rfl dX8_seekTwins_57 ?_
            refine r_getr dX8_seekTwins_58 fl_X8_15 rfl (hM _ _ _ rfl) ?_
            refine r_iload_n 2 rfl dX8_seekTwins_61 ?_
            refine r_Sf [.ref _, .int _] dX8_seekTwins_62 lk_X8_113 mb_X10_pick sc_X10_pick rfl (t_pick (f := (twT1 (MI 2) i k (twT (MI 2) i t)).2.2.1) rfl rfl) rfl (Nat.le_of_ble_eq_true rfl) (rfl) ?_
            refine r_aload_n 3 rfl dX8_seekTwins_65 ?_
            refine r_getr dX8_seekTwins_66 fl_X8_15 rfl (hM _ _ _ rfl) ?_
            refine r_iload_n 1 rfl dX8_seekTwins_69 ?_
            refine r_Sf [.ref _, .int _] dX8_seekTwins_70 lk_X8_113 mb_X10_pick sc_X10_pick rfl (t_pick (f := (twT1 (MI 2) i k (twT (MI 2) i t)).2.2.1) rfl rfl) rfl (Nat.le_of_ble_eq_true rfl) (rfl) ?_
            refine r_icmpeq (tgt := 82) dX8_seekTwins_73 (by decide) (fun zh73 => ?_) (fun zh73 => ?_)
            · refine r_iinc (v := (nI (k + 1))) (ls2 := [(2, .int (nI (k + 1))), (3, .int 0), (1, .int (nI i)), (0, .ref 43)]) 1 dX8_seekTwins_82 rfl (x_inc k) (by decide) rfl ?_
              refine r_goto (tgt := 15) dX8_seekTwins_85 (by decide) ?_
              refine r_mem (congrArg (laC MI) ?_) rfl rfl (r_sub [0, 2, 3] rfl (ihk hkA))
              rw [twT1]
              simp_all
            · refine r_aload_n 3 rfl dX8_seekTwins_76 ?_
              refine r_iconst (v := 5) rfl dX8_seekTwins_77 ?_
              refine r_iload_n 2 rfl dX8_seekTwins_78 ?_
              refine r_Vn [.int _, .int _] dX8_seekTwins_79 lk_X8_117 mb_X8_spoil in_X8_spoil se_X8_spoil rfl (t_spoil) rfl rfl rfl (Nat.le_of_ble_eq_true rfl) (rfl) ?_
              refine r_iinc (v := (nI (k + 1))) (ls2 := [(2, .int (nI (k + 1))), (3, .int 0), (1, .int (nI i)), (0, .ref 43)]) 1 dX8_seekTwins_82 rfl (x_inc k) (by decide) rfl ?_
              refine r_goto (tgt := 15) dX8_seekTwins_85 (by decide) ?_
              refine r_mem (congrArg (laC MI) ?_) rfl rfl (r_sub [0, 2, 3] rfl (ihk hkA))
              rw [twT1]
              simp_all
        · refine r_iconst (v := 1) rfl dX8_seekTwins_47 ?_
          refine r_goto (tgt := 52) dX8_seekTwins_48 (by decide) ?_
          refine r_istore_n (ls2 := [(3, .int 1), (2, .int (nI k)), (1, .int (nI i)), (0, .ref 43)]) dX8_seekTwins_52 (by decide) rfl ?_
          refine r_iload_n 0 rfl dX8_seekTwins_53 ?_
          refine r_ifeq (tgt := 82) dX8_seekTwins_54 (by decide) (fun zh54 => ?_) (fun zh54 => ?_)
          · refine r_iinc (v := (nI (k + 1))) (ls2 := [(2, .int (nI (k + 1))), (3, .int 1), (1, .int (nI i)), (0, .ref 43)]) 1 dX8_seekTwins_82 rfl (x_inc k) (by decide) rfl ?_
            refine r_goto (tgt := 15) dX8_seekTwins_85 (by decide) ?_
            refine r_mem (congrArg (laC MI) ?_) rfl rfl (r_sub [0, 2, 3] rfl (ihk hkA))
            rw [twT1]
            simp_all
          · refine r_aload_n 3 rfl dX8_seekTwins_57 ?_
            refine r_getr dX8_seekTwins_58 fl_X8_15 rfl (hM _ _ _ rfl) ?_
            refine r_iload_n 2 rfl dX8_seekTwins_61 ?_
            refine r_Sf [.ref _, .int _] dX8_seekTwins_62 lk_X8_113 mb_X10_pick sc_X10_pick rfl (t_pick (f := (twT1 (MI 2) i k (twT (MI 2) i t)).2.2.1) rfl rfl) rfl (Nat.le_of_ble_eq_true rfl) (rfl) ?_
            refine r_aload_n 3 rfl dX8_seekTwins_65 ?_
            refine r_getr dX8_seekTwins_66 fl_X8_15 rfl (hM _ _ _ rfl) ?_
            refine r_iload_n 1 rfl dX8_seekTwins_69 ?_
            refine r_Sf [.ref _, .int _] dX8_seekTwins_70 lk_X8_113 mb_X10_pick sc_X10_pick rfl (t_pick (f := (twT1 (MI 2) i k (twT (MI 2) i t)).2.2.1) rfl rfl) rfl (Nat.le_of_ble_eq_true rfl) (rfl) ?_
            refine r_icmpeq (tgt := 82) dX8_seekTwins_73 (by decide) (fun zh73 => ?_) (fun zh73 => ?_)
            · refine r_iinc (v := (nI (k + 1))) (ls2 := [(2, .int (nI (k + 1))), (3, .int 1), (1, .int (nI i)), (0, .ref 43)]) 1 dX8_seekTwins_82 rfl (x_inc k) (by decide) rfl ?_
              refine r_goto (tgt := 15) dX8_seekTwins_85 (by decide) ?_
              refine r_mem (congrArg (laC MI) ?_) rfl rfl (r_sub [0, 2, 3] rfl (ihk hkA))
              rw [twT1]
              simp_all
            · refine r_aload_n 3 rfl dX8_seekTwins_76 ?_
              refine r_iconst (v := 5) rfl dX8_seekTwins_77 ?_
              refine r_iload_n 2 rfl dX8_seekTwins_78 ?_
              refine r_Vn [.int _, .int _] dX8_seekTwins_79 lk_X8_117 mb_X8_spoil in_X8_spoil se_X8_spoil rfl (t_spoil) rfl rfl rfl (Nat.le_of_ble_eq_true rfl) (rfl) ?_
              refine r_iinc (v := (nI (k + 1))) (ls2 := [(2, .int (nI (k + 1))), (3, .int 1), (1, .int (nI i)), (0, .ref 43)]) 1 dX8_seekTwins_82 rfl (x_inc k) (by decide) rfl ?_
              refine r_goto (tgt := 15) dX8_seekTwins_85 (by decide) ?_
              refine r_mem (congrArg (laC MI) ?_) rfl rfl (r_sub [0, 2, 3] rfl (ihk hkA))
              rw [twT1]
              simp_all
    refine r_iload_n 0 rfl dX8_seekTwins_2 ?_
    refine r_aload_n 1 rfl dX8_seekTwins_3 ?_
    refine r_getr dX8_seekTwins_4 fl_X8_54 rfl (hM _ _ _ rfl) ?_
    refine r_geti dX8_seekTwins_7 fl_X8_121 rfl ?_
    refine r_icmpge (tgt := 94) dX8_seekTwins_10 (by decide) (fun zh10 => ?_) (fun zh10 => ?_)
    · rw [hSl] at zh10
      obtain rfl : i = S := by have := geL (k := S) (by omega) (by omega) zh10; omega
      exact r_vret hG dX8_seekTwins_94 (⟨rfl, rfl, rfl, rfl⟩)
    · rw [hSl] at zh10
      have hlt : i < S := ltL (by omega) zh10
      refine r_iconst (v := 0) rfl dX8_seekTwins_13 ?_
      refine r_istore_n (ls2 := [(2, .int 0), (1, .int (nI i)), (0, .ref 43)]) dX8_seekTwins_14 (by decide) rfl ?_
      exact inner hlt 0 (by omega)
  refine r_iconst (v := 0) rfl dX8_seekTwins_0 ?_
  refine r_istore_n (ls2 := [(1, .int 0), (0, .ref 43)]) dX8_seekTwins_1 (by decide) rfl ?_
  exact loop 0 (by omega)
end study3

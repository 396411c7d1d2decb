/-! Study: seekClash, describeArcs, look -/
def dmS (C : Nat → Int32) (t : Tg) : Nat → Dp → Dp
  | 0, q => q
  | k + 1, q => demS t.2.1 t.2.2.1 C (nI k) (dmS C t k q)
def dmA (P : Nat → Nat → Int32) (C : Nat → Int32) (t : Tg) (k : Nat) (q : Dp) : Dp := demA t.2.1 t.2.2.1 C (P k 0) (P k 1) (P k 2 ||| P k 3) q
def clG (P : Nat → Nat → Int32) (C : Nat → Int32) : Nat → Dp × Tg → Dp × Tg
  | 0, s => s
  | k + 1, s => if (clG P C k s).2.2.2.2.2.1 = 0 then (dmA P C (clG P C k s).2 k (clG P C k s).1, if clashV (dmA P C (clG P C k s).2 k (clG P C k s).1).1 (dmA P C (clG P C k s).2 k (clG P C k s).1).2 then spT (clG P C k s).2 6 (nI k) else (clG P C k s).2) else clG P C k s
theorem clG_stop {P : Nat → Nat → Int32} {C : Nat → Int32} {i : Nat} {s : Dp × Tg} (h : ¬ (clG P C i s).2.2.2.2.2.1 = 0) : ∀ j, clG P C (i + j) s = clG P C i s
  | 0 => rfl
  | j + 1 => by rw [show i + (j + 1) = (i + j) + 1 by omega, clG, clG_stop h j, if_neg h]
def zDp (q : Dp) : Dp := (zeroTo q.1 5, zeroTo q.2 5)
def seekC (P : Nat → Nat → Int32) (C : Nat → Int32) (S A : Nat) (q : Dp) (t : Tg) : Dp × Tg := clG P C A (dmS C t S (zDp q), t)
section study4
variable {X : xG} {n : Nat} {MI : Nat → Nat → Int32} {ML : Nat → Nat → Int64} {MR : Nat → Nat → Option Nat}
theorem De48 (hM : x_Lay MR) : x_De MR 48 49 50 := ⟨rfl, hM _ _ _ rfl, hM _ _ _ rfl, rfl, rfl, by decide⟩
theorem t_demandByState (hM : x_Lay MR) {t : Tg} {q : Dp} {x : Int32} : Cf X yX8_demandByState cX8_demandByState 4 none 3 [.ref 43, .ref 48, .ref 2, .int x] n SH (laC MI t) (layD ML 49 50 q) MR none (laC MI t) (layD ML 49 50 (demS t.2.1 t.2.2.1 (MI 2) x q)) MR := by
  have h := c_X8_demandByState (X := X) (n := n) (MI := laC MI t) (ML := layD ML 49 50 q) (MR := MR) (x := x) hM (De48 hM) (ca := 2) rfl
  rw [laC_b t (b := 2) (by decide), layD_z (by decide), layD_o, layD2] at h
  exact h
theorem t_demandByArc (hM : x_Lay MR) (hSt : x_St X) {t : Tg} {q : Dp} {x : Nat} (hx : x < 8) : Cf X yX8_demandByArc cX8_demandByArc 10 none 3 [.ref 43, .ref 48, .ref 2, .int (nI x)] n SH (laC MI t) (layD ML 49 50 q) MR none (laC MI t) (layD ML 49 50 (dmA (arP MI) (MI 2) t x q)) MR := by
  have h := c_X8_demandByArc (X := X) (n := n) (MI := laC MI t) (ML := layD ML 49 50 q) (MR := MR) (x := nI x) hM hSt (De48 hM) (ca := 2) rfl
  have hbu : burstV MI 1 (nI x) = (arP MI x 2 ||| arP MI x 3) := by unfold burstV; rw [show partV MI 1 (nI x) 2 = arP MI x 2 from arP_nI (j := 2) hx (by decide), show partV MI 1 (nI x) 3 = arP MI x 3 from arP_nI (j := 3) hx (by decide)]
  rw [laC_b t (b := 2) (by decide), layD_z (by decide), layD_o, layD2, laC_p, laC_p, laC_bu, hbu, show partV MI 1 (nI x) 0 = arP MI x 0 from arP_nI (j := 0) hx (by decide), show partV MI 1 (nI x) 1 = arP MI x 1 from arP_nI (j := 1) hx (by decide)] at h
  exact h
theorem t_clash (hM : x_Lay MR) {t : Tg} {q : Dp} : Cf X yX3_clash cX3_clash 2 (some .boolean) 1 [.ref 48] n SH (laC MI t) (layD ML 49 50 q) MR (some (.int (if clashV q.1 q.2 then 1 else 0))) (laC MI t) (layD ML 49 50 q) MR := by
  have h := c_X3_clash (X := X) (n := n) (MI := laC MI t) (ML := layD ML 49 50 q) (MR := MR) (De48 hM)
  rw [layD_z (by decide), layD_o] at h
  exact h
theorem t_seekClash (hM : x_Lay MR) (hSt : x_St X) {t : Tg} {S A : Nat} (hS : S ≤ 6) (hSr : MI 1 1 = nI S) (hA : A ≤ 8) (hAr : MI 1 6 = nI A) (he : t.2.2.2.2.1 = 0) : Cf X yX8_seekClash cX8_seekClash 2 none 4 [.ref 43] n SH (laC MI t) ML MR none (laC MI (seekC (arP MI) (MI 2) S A (ML 49, ML 50) t).2) (layD ML 49 50 (seekC (arP MI) (MI 2) S A (ML 49, ML 50) t).1) MR := by
  refine Ct_of (by decide) (Nat.le_of_ble_eq_true rfl) (fun G hG => ?_)
  have hSl : ∀ t, laC MI t 1 1 = nI S := fun t => by rw [laC_b t (by decide), hSr]
  have hAl : ∀ t, laC MI t 1 6 = nI A := fun t => by rw [laC_b t (by decide), hAr]
  obtain ⟨s0, hs0⟩ : ∃ s0 : Dp × Tg, s0 = (dmS (MI 2) t S (zDp (ML 49, ML 50)), t) := ⟨_, rfl⟩
  have hfin : seekC (arP MI) (MI 2) S A (ML 49, ML 50) t = clG (arP MI) (MI 2) A s0 := by rw [hs0]; rfl
  rw [hfin] at hG
  have l2 : ∀ i, i ≤ A → RW X G RX8 cX8_seekClash 2 (x_rm 4 0 0) n SH (laC MI (clG (arP MI) (MI 2) i s0).2) (layD ML 49 50 (clG (arP MI) (MI 2) i s0).1) MR 0 0 44 [(1, .int (nI i)), (0, .ref 43)] [] := by
    refine bwd (fun i hi ih => ?_)
    have hev : laC MI (clG (arP MI) (MI 2) i s0).2 43 6 = (clG (arP MI) (MI 2) i s0).2.2.2.2.2.1 := rfl
    refine r_iload_n 0 rfl dX8_seekClash_44 ?_
    refine r_aload_n 1 rfl dX8_seekClash_45 ?_
    refine r_getr dX8_seekClash_46 fl_X8_54 rfl (hM _ _ _ rfl) ?_
    refine r_geti dX8_seekClash_49 fl_X8_94 rfl ?_
    refine r_icmpge (tgt := 101) dX8_seekClash_52 (by decide) (fun zh52 => ?_) (fun zh52 => ?_)
    · exact r_vret hG dX8_seekClash_101 (⟨rfl, by first | (rw [hev] at zh59; rw [show A = i + (A - i) by omega, clG_stop zh59]) | (rw [hAl] at zh52; have h9 := geL (k := A) (by omega) (by omega) zh52; rw [show A = i by omega]), by first | (rw [hev] at zh59; rw [show A = i + (A - i) by omega, clG_stop zh59]) | (rw [hAl] at zh52; have h9 := geL (k := A) (by omega) (by omega) zh52; rw [show A = i by omega]), rfl⟩)
    · rw [hAl] at zh52
      have hlt : i < A := ltL (by omega) zh52
      refine r_aload_n 1 rfl dX8_seekClash_55 ?_
      refine r_geti dX8_seekClash_56 fl_X8_58 rfl ?_
      refine r_ifne (tgt := 101) dX8_seekClash_59 (by decide) (fun zh59 => ?_) (fun zh59 => ?_)
      · exact r_vret hG dX8_seekClash_101 (⟨rfl, by first | (rw [hev] at zh59; rw [show A = i + (A - i) by omega, clG_stop zh59]) | (rw [hAl] at zh52; have h9 := geL (k := A) (by omega) (by omega) zh52; rw [show A = i by omega]), by first | (rw [hev] at zh59; rw [show A = i + (A - i) by omega, clG_stop zh59]) | (rw [hAl] at zh52; have h9 := geL (k := A) (by omega) (by omega) zh52; rw [show A = i by omega]), rfl⟩)
      · refine r_aload_n 1 rfl dX8_seekClash_62 ?_
        refine r_aload_n 1 rfl dX8_seekClash_63 ?_
        refine r_getr dX8_seekClash_64 fl_X8_28 rfl (hM _ _ _ rfl) ?_
        refine r_aload_n 1 rfl dX8_seekClash_67 ?_
        refine r_getr dX8_seekClash_68 fl_X8_54 rfl (hM _ _ _ rfl) ?_
        refine r_getr dX8_seekClash_71 fl_X8_128 rfl (hM _ _ _ rfl) ?_
        refine r_iload_n 0 rfl dX8_seekClash_74 ?_
        refine r_Vn [.ref _, .ref _, .int _] dX8_seekClash_75 lk_X8_141 mb_X8_demandByArc in_X8_demandByArc se_X8_demandByArc rfl (t_demandByArc hM hSt (show i < 8 by omega)) rfl rfl rfl (Nat.le_of_ble_eq_true rfl) (rfl) ?_
        refine r_aload_n 1 rfl dX8_seekClash_78 ?_
        refine r_getr dX8_seekClash_79 fl_X8_28 rfl (hM _ _ _ rfl) ?_
        refine r_Vf [] dX8_seekClash_82 lk_X8_144 mb_X3_clash in_X3_clash se_X3_clash rfl (t_clash hM) rfl rfl rfl (Nat.le_of_ble_eq_true rfl) (rfl) ?_
        refine r_ifeq (tgt := 95) dX8_seekClash_85 (by decide) (fun zh85 => ?_) (fun zh85 => ?_)
        · refine r_iinc (v := (nI (i + 1))) (ls2 := [(1, .int (nI (i + 1))), (0, .ref 43)]) 0 dX8_seekClash_95 rfl (x_inc i) (by decide) rfl ?_
          refine r_goto (tgt := 44) dX8_seekClash_98 (by decide) ?_
          rw [hev] at zh59
          have hc : clG (arP MI) (MI 2) (i + 1) s0 = _ := if_pos zh59
          have q := ih hlt
          rw [hc] at q
          first
            | (have hcl : clashV (dmA (arP MI) (MI 2) (clG (arP MI) (MI 2) i s0).2 i (clG (arP MI) (MI 2) i s0).1).1 (dmA (arP MI) (MI 2) (clG (arP MI) (MI 2) i s0).2 i (clG (arP MI) (MI 2) i s0).1).2 = true := by simp_all
               rw [if_pos hcl] at q; exact r_sub [0, 1] rfl q)
            | (have hcl : ¬ clashV (dmA (arP MI) (MI 2) (clG (arP MI) (MI 2) i s0).2 i (clG (arP MI) (MI 2) i s0).1).1 (dmA (arP MI) (MI 2) (clG (arP MI) (MI 2) i s0).2 i (clG (arP MI) (MI 2) i s0).1).2 = true := by simp_all
               rw [if_neg hcl] at q; exact r_sub [0, 1] rfl q)
        · refine r_aload_n 1 rfl dX8_seekClash_88 ?_
          refine r_bipush (v := 6) rfl dX8_seekClash_89 ?_
          refine r_iload_n 0 rfl dX8_seekClash_91 ?_
          refine r_Vn [.int _, .int _] dX8_seekClash_92 lk_X8_117 mb_X8_spoil in_X8_spoil se_X8_spoil rfl (t_spoil) rfl rfl rfl (Nat.le_of_ble_eq_true rfl) (rfl) ?_
          refine r_iinc (v := (nI (i + 1))) (ls2 := [(1, .int (nI (i + 1))), (0, .ref 43)]) 0 dX8_seekClash_95 rfl (x_inc i) (by decide) rfl ?_
          refine r_goto (tgt := 44) dX8_seekClash_98 (by decide) ?_
          rw [hev] at zh59
          have hc : clG (arP MI) (MI 2) (i + 1) s0 = _ := if_pos zh59
          have q := ih hlt
          rw [hc] at q
          first
            | (have hcl : clashV (dmA (arP MI) (MI 2) (clG (arP MI) (MI 2) i s0).2 i (clG (arP MI) (MI 2) i s0).1).1 (dmA (arP MI) (MI 2) (clG (arP MI) (MI 2) i s0).2 i (clG (arP MI) (MI 2) i s0).1).2 = true := by simp_all
               rw [if_pos hcl] at q; exact r_sub [0, 1] rfl q)
            | (have hcl : ¬ clashV (dmA (arP MI) (MI 2) (clG (arP MI) (MI 2) i s0).2 i (clG (arP MI) (MI 2) i s0).1).1 (dmA (arP MI) (MI 2) (clG (arP MI) (MI 2) i s0).2 i (clG (arP MI) (MI 2) i s0).1).2 = true := by simp_all
               rw [if_neg hcl] at q; exact r_sub [0, 1] rfl q)
  have l1 : ∀ i, i ≤ S → RW X G RX8 cX8_seekClash 2 (x_rm 4 0 0) n SH (laC MI t) (layD ML 49 50 (dmS (MI 2) t i (zDp (ML 49, ML 50)))) MR 0 0 9 [(1, .int (nI i)), (0, .ref 43)] [] := by
    refine bwd (fun i hi ih => ?_)
    refine r_iload_n 0 rfl dX8_seekClash_9 ?_
    refine r_aload_n 1 rfl dX8_seekClash_10 ?_
    refine r_getr dX8_seekClash_11 fl_X8_54 rfl (hM _ _ _ rfl) ?_
    refine r_geti dX8_seekClash_14 fl_X8_121 rfl ?_
    refine r_icmpge (tgt := 42) dX8_seekClash_17 (by decide) (fun zh17 => ?_) (fun zh17 => ?_)
    · rw [hSl] at zh17
      obtain rfl : i = S := by have := geL (k := S) (by omega) (by omega) zh17; omega
      refine r_iconst (v := 0) rfl dX8_seekClash_42 ?_
      refine r_istore_n (ls2 := [(1, .int 0), (0, .ref 43)]) dX8_seekClash_43 (by decide) rfl ?_
      have q := l2 0 (by omega)
      rw [hs0] at q
      exact q
    · rw [hSl] at zh17
      have hlt : i < S := ltL (by omega) zh17
      refine r_aload_n 1 rfl dX8_seekClash_20 ?_
      refine r_aload_n 1 rfl dX8_seekClash_21 ?_
      refine r_getr dX8_seekClash_22 fl_X8_28 rfl (hM _ _ _ rfl) ?_
      refine r_aload_n 1 rfl dX8_seekClash_25 ?_
      refine r_getr dX8_seekClash_26 fl_X8_54 rfl (hM _ _ _ rfl) ?_
      refine r_getr dX8_seekClash_29 fl_X8_128 rfl (hM _ _ _ rfl) ?_
      refine r_iload_n 0 rfl dX8_seekClash_32 ?_
      refine r_Vn [.ref _, .ref _, .int _] dX8_seekClash_33 lk_X8_137 mb_X8_demandByState in_X8_demandByState se_X8_demandByState rfl (t_demandByState hM) rfl rfl rfl (Nat.le_of_ble_eq_true rfl) (rfl) ?_
      refine r_iinc (v := (nI (i + 1))) (ls2 := [(1, .int (nI (i + 1))), (0, .ref 43)]) 0 dX8_seekClash_36 rfl (x_inc i) (by decide) rfl ?_
      refine r_goto (tgt := 9) dX8_seekClash_39 (by decide) ?_
      exact ih hlt
  refine r_aload_n 0 rfl dX8_seekClash_0 ?_
  refine r_getr dX8_seekClash_1 fl_X8_28 rfl (hM _ _ _ rfl) ?_
  refine r_Vn [] dX8_seekClash_4 lk_X8_134 mb_X3_clear in_X3_clear se_X3_clear rfl (c_X3_clear (De48 hM)) rfl rfl rfl (Nat.le_of_ble_eq_true rfl) (rfl) ?_
  refine r_iconst (v := 0) rfl dX8_seekClash_7 ?_
  refine r_istore_n (ls2 := [(1, .int 0), (0, .ref 43)]) dX8_seekClash_8 (by decide) rfl ?_
  exact l1 0 (by omega)
end study4

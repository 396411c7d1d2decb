/-! Machine: rows of arcs moved; a draft taken over -/
def remRow (MI : Nat → Nat → Int32) (r i p : Nat) : Nat → Nat → Int32 := fun b j => if (4 + r ≤ b ∧ b < 4 + i ∧ j < 6) ∨ (b = 4 + i ∧ j < p) then MI (b + 1) j else MI b j
def removeM (MI : Nat → Nat → Int32) (r A : Nat) : Nat → Nat → Int32 := u2 (remRow MI r (A - 1) 0) 1 6 (nI (A - 1))
def opnRow (MI : Nat → Nat → Int32) (k A i p : Nat) : Nat → Nat → Int32 := fun b j => if (k + 3 + i < b ∧ b ≤ k + 3 + A ∧ j < 6) ∨ (b = k + 3 + i ∧ j < p) then MI (b - 1) j else MI b j
def openM (MI : Nat → Nat → Int32) (k r A : Nat) : Nat → Nat → Int32 := u2 (opnRow MI k A r 0) k 6 (nI (A + 1))
def tkF (MI : Nat → Nat → Int32) : Nat → Nat → Int32 := fun b j => if b = 1 ∧ (j = 0 ∨ j = 1 ∨ j = 3 ∨ j = 4 ∨ j = 5 ∨ j = 6 ∨ j = 8) then MI 16 j else MI b j
def tkC (MI : Nat → Nat → Int32) (i : Nat) : Nat → Nat → Int32 := fun b j => if b = 2 ∧ j < i then MI 17 j else tkF MI b j
def tkR (MI : Nat → Nat → Int32) (i p : Nat) : Nat → Nat → Int32 := fun b j => if (4 ≤ b ∧ b < 4 + i ∧ j < 6) ∨ (b = 4 + i ∧ j < p) then MI (b + 15) j else tkC MI 6 b j
def tkG (MI : Nat → Nat → Int32) (i : Nat) : Nat → Nat → Int32 := fun b j => if (b = 12 ∨ b = 13) ∧ j < i then MI (b + 15) j else tkR MI 8 0 b j
section mach2
variable {X : xG} {n : Nat} {MI : Nat → Nat → Int32} {ML : Nat → Nat → Int64} {MR : Nat → Nat → Option Nat}
set_option maxRecDepth 100000 in
theorem c_X5_removeArc_1 (hM : x_Lay MR) {r A : Nat} (hA : A ≤ 8) (hr : r < A) (hAr : MI 1 6 = nI A) : Cf X yX5_removeArc cX5_removeArc 4 none 2 [.ref 1, .int (nI r)] n SH MI ML MR none (removeM MI r A) ML MR := by
  refine Ct_of (by decide) (Nat.le_of_ble_eq_true rfl) (fun G hG => ?_)
  have hR16 : ∀ i p, remRow MI r i p 1 6 = nI A := fun i p => by rw [← hAr]; unfold remRow; rw [if_neg (by omega)]
  have hsub : nI A - 1 = nI (A - 1) := by have h := nI_pred (A - 1); rw [show A - 1 + 1 = A by omega] at h; exact h
  have loop : ∀ i, i ≤ A - 1 → r ≤ i → RW X G RX5 cX5_removeArc 4 (x_rm 2 0 0) n SH (remRow MI r i 0) ML MR 0 0 2 [(2, .int (nI i)), (0, .ref 1), (1, .int (nI r))] [] := by
    refine bwd (fun i hi ih hri => ?_)
    have inner : i < A - 1 → ∀ p, p ≤ 6 → RW X G RX5 cX5_removeArc 4 (x_rm 2 0 0) n SH (remRow MI r i p) ML MR 0 0 14 [(3, .int (nI p)), (2, .int (nI i)), (0, .ref 1), (1, .int (nI r))] [] := by
      intro hlt
      refine bwd (fun p hp ihp => ?_)
      refine r_iload_n 0 rfl dX5_removeArc_14 ?_
      refine r_bipush (v := 6) rfl dX5_removeArc_15 ?_
      refine r_icmpge (tgt := 40) dX5_removeArc_17 (by decide) (fun zh17 => ?_) (fun zh17 => ?_)
      · have hpe : p = 6 := by have := geL (k := 6) (by decide) (by omega) zh17; omega
        refine r_iinc (v := (nI (i + 1))) (ls2 := [(2, .int (nI (i + 1))), (3, .int (nI p)), (0, .ref 1), (1, .int (nI r))]) 1 dX5_removeArc_40 rfl (x_inc i) (by decide) rfl ?_
        refine r_goto (tgt := 2) dX5_removeArc_43 (by decide) ?_
        subst hpe
        refine r_mem ?_ rfl rfl (r_sub [0, 2, 3] rfl (ih hlt (by omega)))
        funext b j
        simp only [remRow]
        grind
      · have hp6 : p < 6 := ltL (by omega) zh17
        refine r_aload_n 2 rfl dX5_removeArc_20 ?_
        refine r_iload_n 1 rfl dX5_removeArc_21 ?_
        refine r_iload_n 0 rfl dX5_removeArc_22 ?_
        refine r_aload_n 2 rfl dX5_removeArc_23 ?_
        refine r_iload_n 1 rfl dX5_removeArc_24 ?_
        refine r_iconst (v := 1) rfl dX5_removeArc_25 ?_
        refine r_iadd dX5_removeArc_26 ?_
        refine r_iload_n 0 rfl dX5_removeArc_27 ?_
        refine r_Vf [.int _, .int _] dX5_removeArc_28 lk_X5_49 mb_X5_part in_X5_part se_X5_part rfl (c_X5_part_1 hM) rfl rfl rfl (Nat.le_of_ble_eq_true rfl) (rfl) ?_
        refine r_Vn [.int _, .int _, .int _] dX5_removeArc_31 lk_X5_57 mb_X5_setPart in_X5_setPart se_X5_setPart rfl (c_X5_setPart_1 hM) rfl rfl rfl (Nat.le_of_ble_eq_true rfl) (rfl) ?_
        refine r_iinc (v := (nI (p + 1))) (ls2 := [(3, .int (nI (p + 1))), (2, .int (nI i)), (0, .ref 1), (1, .int (nI r))]) 0 dX5_removeArc_34 rfl (x_inc p) (by decide) rfl ?_
        refine r_goto (tgt := 14) dX5_removeArc_37 (by decide) ?_
        refine r_mem ?_ rfl rfl (ihp hp6)
        rw [show nI i + 1 = nI (i + 1) from nI_1 i, partV_nI (by omega) hp6, setPartM_nI (by omega) hp6]
        funext b j
        simp only [u2, remRow]
        grind
    refine r_iload_n 0 rfl dX5_removeArc_2 ?_
    refine r_aload_n 1 rfl dX5_removeArc_3 ?_
    refine r_geti dX5_removeArc_4 fl_X5_43 rfl ?_
    refine r_iconst (v := 1) rfl dX5_removeArc_7 ?_
    refine r_isub dX5_removeArc_8 ?_
    refine r_icmpge (tgt := 46) dX5_removeArc_9 (by decide) (fun zh9 => ?_) (fun zh9 => ?_)
    · rw [hR16, hsub] at zh9
      obtain rfl : i = A - 1 := by have := geL (k := A - 1) (by omega) (by omega) zh9; omega
      refine r_aload_n 1 rfl dX5_removeArc_46 ?_
      refine r_dup rfl dX5_removeArc_47 ?_
      refine r_geti dX5_removeArc_48 fl_X5_43 rfl ?_
      refine r_iconst (v := 1) rfl dX5_removeArc_51 ?_
      refine r_isub dX5_removeArc_52 ?_
      refine r_puti dX5_removeArc_53 fl_X5_43 rfl rfl rfl ?_
      exact r_vret hG dX5_removeArc_56 (⟨rfl, by unfold removeM; rw [hR16, hsub], rfl, rfl⟩)
    · rw [hR16, hsub] at zh9
      have hlt : i < A - 1 := ltL (by omega) zh9
      refine r_iconst (v := 0) rfl dX5_removeArc_12 ?_
      refine r_istore_n (ls2 := [(3, .int 0), (2, .int (nI i)), (0, .ref 1), (1, .int (nI r))]) dX5_removeArc_13 (by decide) rfl ?_
      exact inner hlt 0 (by decide)
  refine r_iload_n 1 rfl dX5_removeArc_0 ?_
  refine r_istore_n (ls2 := [(2, .int (nI r)), (0, .ref 1), (1, .int (nI r))]) dX5_removeArc_1 (by decide) rfl ?_
  refine r_mem ?_ rfl rfl (loop r (by omega) (Nat.le_refl r))
  funext b j
  simp only [remRow]
  grind
set_option maxRecDepth 100000 in
theorem c_X5_openArc_1 (hM : x_Lay MR) {r A : Nat} (hA : A ≤ 7) (hr : r ≤ A) (hAr : MI 1 6 = nI A) : Cf X yX5_openArc cX5_openArc 4 none 2 [.ref 1, .int (nI r)] n SH MI ML MR none (openM MI 1 r A) ML MR := by
  refine Ct_of (by decide) (Nat.le_of_ble_eq_true rfl) (fun G hG => ?_)
  have hR16 : ∀ i p, opnRow MI 1 A i p 1 6 = nI A := fun i p => by rw [← hAr]; unfold opnRow; rw [if_neg (by omega)]
  have loop : ∀ i, i ≤ A - r → RW X G RX5 cX5_openArc 4 (x_rm 2 0 0) n SH (opnRow MI 1 A (A - i) 0) ML MR 0 0 5 [(2, .int (nI (A - i))), (0, .ref 1), (1, .int (nI r))] [] := by
    refine bwd (fun i hi ih => ?_)
    have inner : i < A - r → ∀ p, p ≤ 6 → RW X G RX5 cX5_openArc 4 (x_rm 2 0 0) n SH (opnRow MI 1 A (A - i) p) ML MR 0 0 12 [(3, .int (nI p)), (2, .int (nI (A - i))), (0, .ref 1), (1, .int (nI r))] [] := by
      intro hlt
      refine bwd (fun p hp ihp => ?_)
      refine r_iload_n 0 rfl dX5_openArc_12 ?_
      refine r_bipush (v := 6) rfl dX5_openArc_13 ?_
      refine r_icmpge (tgt := 38) dX5_openArc_15 (by decide) (fun zh15 => ?_) (fun zh15 => ?_)
      · have hpe : p = 6 := by have := geL (k := 6) (by decide) (by omega) zh15; omega
        refine r_iinc (v := (nI (A - (i + 1)))) (ls2 := [(2, .int (nI (A - (i + 1)))), (3, .int (nI p)), (0, .ref 1), (1, .int (nI r))]) 1 dX5_openArc_38 rfl (by have h := x_dec (A - (i + 1)); rw [show A - (i + 1) + 1 = A - i by omega] at h; exact h) (by decide) rfl ?_
        refine r_goto (tgt := 5) dX5_openArc_41 (by decide) ?_
        subst hpe
        refine r_mem ?_ rfl rfl (r_sub [0, 2, 3] rfl (ih hlt))
        funext b j
        simp only [opnRow]
        grind
      · have hp6 : p < 6 := ltL (by omega) zh15
        refine r_aload_n 2 rfl dX5_openArc_18 ?_
        refine r_iload_n 1 rfl dX5_openArc_19 ?_
        refine r_iload_n 0 rfl dX5_openArc_20 ?_
        refine r_aload_n 2 rfl dX5_openArc_21 ?_
        refine r_iload_n 1 rfl dX5_openArc_22 ?_
        refine r_iconst (v := 1) rfl dX5_openArc_23 ?_
        refine r_isub dX5_openArc_24 ?_
        refine r_iload_n 0 rfl dX5_openArc_25 ?_
        refine r_Vf [.int _, .int _] dX5_openArc_26 lk_X5_49 mb_X5_part in_X5_part se_X5_part rfl (c_X5_part_1 hM) rfl rfl rfl (Nat.le_of_ble_eq_true rfl) (rfl) ?_
        refine r_Vn [.int _, .int _, .int _] dX5_openArc_29 lk_X5_57 mb_X5_setPart in_X5_setPart se_X5_setPart rfl (c_X5_setPart_1 hM) rfl rfl rfl (Nat.le_of_ble_eq_true rfl) (rfl) ?_
        refine r_iinc (v := (nI (p + 1))) (ls2 := [(3, .int (nI (p + 1))), (2, .int (nI (A - i))), (0, .ref 1), (1, .int (nI r))]) 0 dX5_openArc_32 rfl (x_inc p) (by decide) rfl ?_
        refine r_goto (tgt := 12) dX5_openArc_35 (by decide) ?_
        refine r_mem ?_ rfl rfl (ihp hp6)
        rw [show nI (A - i) - 1 = nI (A - i - 1) from by have h := nI_pred (A - i - 1); rw [show A - i - 1 + 1 = A - i by omega] at h; exact h, partV_nI (by omega) hp6, setPartM_nI (by omega) hp6]
        funext b j
        simp only [u2, opnRow]
        grind
    refine r_iload_n 0 rfl dX5_openArc_5 ?_
    refine r_iload_n 2 rfl dX5_openArc_6 ?_
    refine r_icmple (tgt := 44) dX5_openArc_7 (by decide) (fun zh7 => ?_) (fun zh7 => ?_)
    · obtain rfl : i = A - r := by have := geL (k := A - i) (i := r) (by omega) (by omega) zh7; omega
      refine r_aload_n 1 rfl dX5_openArc_44 ?_
      refine r_dup rfl dX5_openArc_45 ?_
      refine r_geti dX5_openArc_46 fl_X5_43 rfl ?_
      refine r_iconst (v := 1) rfl dX5_openArc_49 ?_
      refine r_iadd dX5_openArc_50 ?_
      refine r_puti dX5_openArc_51 fl_X5_43 rfl rfl rfl ?_
      exact r_vret hG dX5_openArc_54 (⟨rfl, by unfold openM; rw [hR16, show A - (A - r) = r by omega, nI_1], rfl, rfl⟩)
    · have hlt : i < A - r := by
        rcases Nat.lt_or_ge i (A - r) with q | q
        · exact q
        · exact absurd (nI_le (show A - i ≤ r by omega) (by omega)) zh7
      refine r_iconst (v := 0) rfl dX5_openArc_10 ?_
      refine r_istore_n (ls2 := [(3, .int 0), (2, .int (nI (A - i))), (0, .ref 1), (1, .int (nI r))]) dX5_openArc_11 (by decide) rfl ?_
      exact inner hlt 0 (by decide)
  refine r_aload_n 0 rfl dX5_openArc_0 ?_
  refine r_geti dX5_openArc_1 fl_X5_43 rfl ?_
  refine r_nmi (fun zv4 ze4 => ?_)
  refine r_istore_n (ls2 := [(2, .int zv4), (0, .ref 1), (1, .int (nI r))]) dX5_openArc_4 (by decide) rfl ?_
  obtain rfl : zv4 = nI (A - 0) := by rw [ze4, hAr]; rfl
  refine r_mem ?_ rfl rfl (loop 0 (by omega))
  funext b j
  simp only [opnRow]
  grind
set_option maxRecDepth 100000 in
theorem c_X5_openArc_16 (hM : x_Lay MR) {r A : Nat} (hA : A ≤ 7) (hr : r ≤ A) (hAr : MI 16 6 = nI A) : Cf X yX5_openArc cX5_openArc 4 none 2 [.ref 16, .int (nI r)] n SH MI ML MR none (openM MI 16 r A) ML MR := by
  refine Ct_of (by decide) (Nat.le_of_ble_eq_true rfl) (fun G hG => ?_)
  have hR16 : ∀ i p, opnRow MI 16 A i p 16 6 = nI A := fun i p => by rw [← hAr]; unfold opnRow; rw [if_neg (by omega)]
  have loop : ∀ i, i ≤ A - r → RW X G RX5 cX5_openArc 4 (x_rm 2 0 0) n SH (opnRow MI 16 A (A - i) 0) ML MR 0 0 5 [(2, .int (nI (A - i))), (0, .ref 16), (1, .int (nI r))] [] := by
    refine bwd (fun i hi ih => ?_)
    have inner : i < A - r → ∀ p, p ≤ 6 → RW X G RX5 cX5_openArc 4 (x_rm 2 0 0) n SH (opnRow MI 16 A (A - i) p) ML MR 0 0 12 [(3, .int (nI p)), (2, .int (nI (A - i))), (0, .ref 16), (1, .int (nI r))] [] := by
      intro hlt
      refine bwd (fun p hp ihp => ?_)
      refine r_iload_n 0 rfl dX5_openArc_12 ?_
      refine r_bipush (v := 6) rfl dX5_openArc_13 ?_
      refine r_icmpge (tgt := 38) dX5_openArc_15 (by decide) (fun zh15 => ?_) (fun zh15 => ?_)
      · have hpe : p = 6 := by have := geL (k := 6) (by decide) (by omega) zh15; omega
        refine r_iinc (v := (nI (A - (i + 1)))) (ls2 := [(2, .int (nI (A - (i + 1)))), (3, .int (nI p)), (0, .ref 16), (1, .int (nI r))]) 1 dX5_openArc_38 rfl (by have h := x_dec (A - (i + 1)); rw [show A - (i + 1) + 1 = A - i by omega] at h; exact h) (by decide) rfl ?_
        refine r_goto (tgt := 5) dX5_openArc_41 (by decide) ?_
        subst hpe
        refine r_mem ?_ rfl rfl (r_sub [0, 2, 3] rfl (ih hlt))
        funext b j
        simp only [opnRow]
        grind
      · have hp6 : p < 6 := ltL (by omega) zh15
        refine r_aload_n 2 rfl dX5_openArc_18 ?_
        refine r_iload_n 1 rfl dX5_openArc_19 ?_
        refine r_iload_n 0 rfl dX5_openArc_20 ?_
        refine r_aload_n 2 rfl dX5_openArc_21 ?_
        refine r_iload_n 1 rfl dX5_openArc_22 ?_
        refine r_iconst (v := 1) rfl dX5_openArc_23 ?_
        refine r_isub dX5_openArc_24 ?_
        refine r_iload_n 0 rfl dX5_openArc_25 ?_
        refine r_Vf [.int _, .int _] dX5_openArc_26 lk_X5_49 mb_X5_part in_X5_part se_X5_part rfl (c_X5_part_16 hM) rfl rfl rfl (Nat.le_of_ble_eq_true rfl) (rfl) ?_
        refine r_Vn [.int _, .int _, .int _] dX5_openArc_29 lk_X5_57 mb_X5_setPart in_X5_setPart se_X5_setPart rfl (c_X5_setPart_16 hM) rfl rfl rfl (Nat.le_of_ble_eq_true rfl) (rfl) ?_
        refine r_iinc (v := (nI (p + 1))) (ls2 := [(3, .int (nI (p + 1))), (2, .int (nI (A - i))), (0, .ref 16), (1, .int (nI r))]) 0 dX5_openArc_32 rfl (x_inc p) (by decide) rfl ?_
        refine r_goto (tgt := 12) dX5_openArc_35 (by decide) ?_
        refine r_mem ?_ rfl rfl (ihp hp6)
        rw [show nI (A - i) - 1 = nI (A - i - 1) from by have h := nI_pred (A - i - 1); rw [show A - i - 1 + 1 = A - i by omega] at h; exact h, partV_nI (by omega) hp6, setPartM_nI (by omega) hp6]
        funext b j
        simp only [u2, opnRow]
        grind
    refine r_iload_n 0 rfl dX5_openArc_5 ?_
    refine r_iload_n 2 rfl dX5_openArc_6 ?_
    refine r_icmple (tgt := 44) dX5_openArc_7 (by decide) (fun zh7 => ?_) (fun zh7 => ?_)
    · obtain rfl : i = A - r := by have := geL (k := A - i) (i := r) (by omega) (by omega) zh7; omega
      refine r_aload_n 1 rfl dX5_openArc_44 ?_
      refine r_dup rfl dX5_openArc_45 ?_
      refine r_geti dX5_openArc_46 fl_X5_43 rfl ?_
      refine r_iconst (v := 1) rfl dX5_openArc_49 ?_
      refine r_iadd dX5_openArc_50 ?_
      refine r_puti dX5_openArc_51 fl_X5_43 rfl rfl rfl ?_
      exact r_vret hG dX5_openArc_54 (⟨rfl, by unfold openM; rw [hR16, show A - (A - r) = r by omega, nI_1], rfl, rfl⟩)
    · have hlt : i < A - r := by
        rcases Nat.lt_or_ge i (A - r) with q | q
        · exact q
        · exact absurd (nI_le (show A - i ≤ r by omega) (by omega)) zh7
      refine r_iconst (v := 0) rfl dX5_openArc_10 ?_
      refine r_istore_n (ls2 := [(3, .int 0), (2, .int (nI (A - i))), (0, .ref 16), (1, .int (nI r))]) dX5_openArc_11 (by decide) rfl ?_
      exact inner hlt 0 (by decide)
  refine r_aload_n 0 rfl dX5_openArc_0 ?_
  refine r_geti dX5_openArc_1 fl_X5_43 rfl ?_
  refine r_nmi (fun zv4 ze4 => ?_)
  refine r_istore_n (ls2 := [(2, .int zv4), (0, .ref 16), (1, .int (nI r))]) dX5_openArc_4 (by decide) rfl ?_
  obtain rfl : zv4 = nI (A - 0) := by rw [ze4, hAr]; rfl
  refine r_mem ?_ rfl rfl (loop 0 (by omega))
  funext b j
  simp only [opnRow]
  grind
set_option maxRecDepth 100000 in
theorem c_X5_takeFrom_1 (hM : x_Lay MR) (h01 : MI 16 0 = 0 ∨ MI 16 0 = 1) : Cf X yX5_takeFrom cX5_takeFrom 4 none 1 [.ref 1, .ref 16] n SH MI ML MR none (tkG MI 16) ML MR := by
  refine Ct_of (by decide) (Nat.le_of_ble_eq_true rfl) (fun G hG => ?_)
  have l3 : ∀ i, i ≤ 16 → RW X G RX5 cX5_takeFrom 4 (x_rm 1 0 0) n SH (tkG MI i) ML MR 0 0 128 [(2, .int (nI i)), (0, .ref 1), (1, .ref 16)] [] := by
    refine bwd (fun i hi ih => ?_)
    refine r_iload_n 0 rfl dX5_takeFrom_128 ?_
    refine r_bipush (v := 16) rfl dX5_takeFrom_129 ?_
    refine r_icmpge (tgt := 164) dX5_takeFrom_131 (by decide) (fun zh131 => ?_) (fun zh131 => ?_)
    · obtain rfl : i = 16 := by have := geL (k := 16) (by decide) (by omega) zh131; omega
      exact r_vret hG dX5_takeFrom_164 (⟨rfl, rfl, rfl, rfl⟩)
    · have hlt : i < 16 := ltL (by omega) zh131
      refine r_aload_n 1 rfl dX5_takeFrom_134 ?_
      refine r_getr dX5_takeFrom_135 fl_X5_20 rfl (hM _ _ _ rfl) ?_
      refine r_iload_n 0 rfl dX5_takeFrom_138 ?_
      refine r_aload_n 2 rfl dX5_takeFrom_139 ?_
      refine r_getr dX5_takeFrom_140 fl_X5_20 rfl (hM _ _ _ rfl) ?_
      refine r_iload_n 0 rfl dX5_takeFrom_143 ?_
      refine r_iald dX5_takeFrom_144 rfl (vp_in_nI hlt (by decide)) ?_
      refine r_iast dX5_takeFrom_145 rfl (vp_in_nI hlt (by decide)) ?_
      refine r_aload_n 1 rfl dX5_takeFrom_146 ?_
      refine r_getr dX5_takeFrom_147 fl_X5_23 rfl (hM _ _ _ rfl) ?_
      refine r_iload_n 0 rfl dX5_takeFrom_150 ?_
      refine r_aload_n 2 rfl dX5_takeFrom_151 ?_
      refine r_getr dX5_takeFrom_152 fl_X5_23 rfl (hM _ _ _ rfl) ?_
      refine r_iload_n 0 rfl dX5_takeFrom_155 ?_
      refine r_iald dX5_takeFrom_156 rfl (vp_in_nI hlt (by decide)) ?_
      refine r_iast dX5_takeFrom_157 rfl (vp_in_nI hlt (by decide)) ?_
      refine r_iinc (v := (nI (i + 1))) (ls2 := [(2, .int (nI (i + 1))), (0, .ref 1), (1, .ref 16)]) 0 dX5_takeFrom_158 rfl (x_inc i) (by decide) rfl ?_
      refine r_goto (tgt := 128) dX5_takeFrom_161 (by decide) ?_
      refine r_mem ?_ rfl rfl (ih hlt)
      rw [nI_clamp (by omega)]
      funext b j
      simp only [u2, tkG, tkR, tkC, tkF]
      grind
  have l2 : ∀ i, i ≤ 8 → RW X G RX5 cX5_takeFrom 4 (x_rm 1 0 0) n SH (tkR MI i 0) ML MR 0 0 84 [(2, .int (nI i)), (0, .ref 1), (1, .ref 16)] [] := by
    refine bwd (fun i hi ih => ?_)
    have inner : i < 8 → ∀ p, p ≤ 6 → RW X G RX5 cX5_takeFrom 4 (x_rm 1 0 0) n SH (tkR MI i p) ML MR 0 0 92 [(3, .int (nI p)), (2, .int (nI i)), (0, .ref 1), (1, .ref 16)] [] := by
      intro hlt
      have hcl : (nI i).toNatClampNeg < 8 := by rw [nI_clamp (by omega)]; exact hlt
      refine bwd (fun p hp ihp => ?_)
      refine r_iload_n 0 rfl dX5_takeFrom_92 ?_
      refine r_bipush (v := 6) rfl dX5_takeFrom_93 ?_
      refine r_icmpge (tgt := 120) dX5_takeFrom_95 (by decide) (fun zh95 => ?_) (fun zh95 => ?_)
      · have hpe : p = 6 := by have := geL (k := 6) (by decide) (by omega) zh95; omega
        refine r_iinc (v := (nI (i + 1))) (ls2 := [(2, .int (nI (i + 1))), (3, .int (nI p)), (0, .ref 1), (1, .ref 16)]) 1 dX5_takeFrom_120 rfl (x_inc i) (by decide) rfl ?_
        refine r_goto (tgt := 84) dX5_takeFrom_123 (by decide) ?_
        subst hpe
        refine r_mem ?_ rfl rfl (r_sub [0, 2, 3] rfl (ih hlt))
        funext b j
        simp only [tkR, tkC, tkF]
        grind
      · have hp6 : p < 6 := ltL (by omega) zh95
        refine r_aload_n 2 rfl dX5_takeFrom_98 ?_
        refine r_getr dX5_takeFrom_99 fl_X5_17 rfl (hM _ _ _ rfl) ?_
        refine r_iload_n 1 rfl dX5_takeFrom_102 ?_
        refine r_aald dX5_takeFrom_103 rfl (by decide) (vp_in_nI hlt (by decide)) (hrow1 hM hcl) ?_
        refine r_iload_n 0 rfl dX5_takeFrom_104 ?_
        refine r_aload_n 3 rfl dX5_takeFrom_105 ?_
        refine r_getr dX5_takeFrom_106 fl_X5_17 rfl (hM _ _ _ rfl) ?_
        refine r_iload_n 1 rfl dX5_takeFrom_109 ?_
        refine r_aald dX5_takeFrom_110 rfl (by decide) (vp_in_nI hlt (by decide)) (hrow16 hM hcl) ?_
        refine r_iload_n 0 rfl dX5_takeFrom_111 ?_
        refine r_iald dX5_takeFrom_112 (hsr16 hcl) (vp_in_nI hp6 (by decide)) ?_
        refine r_iast dX5_takeFrom_113 (hsr1 hcl) (vp_in_nI hp6 (by decide)) ?_
        refine r_iinc (v := (nI (p + 1))) (ls2 := [(3, .int (nI (p + 1))), (2, .int (nI i)), (0, .ref 1), (1, .ref 16)]) 0 dX5_takeFrom_114 rfl (x_inc p) (by decide) rfl ?_
        refine r_goto (tgt := 92) dX5_takeFrom_117 (by decide) ?_
        refine r_mem ?_ rfl rfl (ihp hp6)
        rw [nI_clamp (by omega), nI_clamp (by omega)]
        funext b j
        simp only [u2, tkR, tkC, tkF]
        grind
    refine r_iload_n 0 rfl dX5_takeFrom_84 ?_
    refine r_bipush (v := 8) rfl dX5_takeFrom_85 ?_
    refine r_icmpge (tgt := 126) dX5_takeFrom_87 (by decide) (fun zh87 => ?_) (fun zh87 => ?_)
    · obtain rfl : i = 8 := by have := geL (k := 8) (by decide) (by omega) zh87; omega
      refine r_iconst (v := 0) rfl dX5_takeFrom_126 ?_
      refine r_istore_n (ls2 := [(2, .int 0), (0, .ref 1), (1, .ref 16)]) dX5_takeFrom_127 (by decide) rfl ?_
      refine r_mem ?_ rfl rfl (l3 0 (by decide))
      funext b j
      simp only [tkG]
      grind
    · have hlt : i < 8 := ltL (by omega) zh87
      refine r_iconst (v := 0) rfl dX5_takeFrom_90 ?_
      refine r_istore_n (ls2 := [(3, .int 0), (2, .int (nI i)), (0, .ref 1), (1, .ref 16)]) dX5_takeFrom_91 (by decide) rfl ?_
      exact inner hlt 0 (by decide)
  have l1 : ∀ i, i ≤ 6 → RW X G RX5 cX5_takeFrom 4 (x_rm 1 0 0) n SH (tkC MI i) ML MR 0 0 58 [(2, .int (nI i)), (0, .ref 1), (1, .ref 16)] [] := by
    refine bwd (fun i hi ih => ?_)
    refine r_iload_n 0 rfl dX5_takeFrom_58 ?_
    refine r_bipush (v := 6) rfl dX5_takeFrom_59 ?_
    refine r_icmpge (tgt := 82) dX5_takeFrom_61 (by decide) (fun zh61 => ?_) (fun zh61 => ?_)
    · obtain rfl : i = 6 := by have := geL (k := 6) (by decide) (by omega) zh61; omega
      refine r_iconst (v := 0) rfl dX5_takeFrom_82 ?_
      refine r_istore_n (ls2 := [(2, .int 0), (0, .ref 1), (1, .ref 16)]) dX5_takeFrom_83 (by decide) rfl ?_
      refine r_mem ?_ rfl rfl (l2 0 (by decide))
      funext b j
      simp only [tkR]
      grind
    · have hlt : i < 6 := ltL (by omega) zh61
      refine r_aload_n 1 rfl dX5_takeFrom_64 ?_
      refine r_getr dX5_takeFrom_65 fl_X5_9 rfl (hM _ _ _ rfl) ?_
      refine r_iload_n 0 rfl dX5_takeFrom_68 ?_
      refine r_aload_n 2 rfl dX5_takeFrom_69 ?_
      refine r_getr dX5_takeFrom_70 fl_X5_9 rfl (hM _ _ _ rfl) ?_
      refine r_iload_n 0 rfl dX5_takeFrom_73 ?_
      refine r_iald dX5_takeFrom_74 rfl (vp_in_nI hlt (by decide)) ?_
      refine r_iast dX5_takeFrom_75 rfl (vp_in_nI hlt (by decide)) ?_
      refine r_iinc (v := (nI (i + 1))) (ls2 := [(2, .int (nI (i + 1))), (0, .ref 1), (1, .ref 16)]) 0 dX5_takeFrom_76 rfl (x_inc i) (by decide) rfl ?_
      refine r_goto (tgt := 58) dX5_takeFrom_79 (by decide) ?_
      refine r_mem ?_ rfl rfl (ih hlt)
      rw [nI_clamp (by omega)]
      funext b j
      simp only [u2, tkC, tkF]
      grind
  refine r_aload_n 0 rfl dX5_takeFrom_0 ?_
  refine r_aload_n 1 rfl dX5_takeFrom_1 ?_
  refine r_geti dX5_takeFrom_2 fl_X5_26 rfl ?_
  refine r_puti dX5_takeFrom_5 fl_X5_26 rfl (by rcases h01 with h | h <;> rw [h] <;> rfl) (by rcases h01 with h | h <;> rw [h] <;> rfl) ?_
  refine r_aload_n 0 rfl dX5_takeFrom_8 ?_
  refine r_aload_n 1 rfl dX5_takeFrom_9 ?_
  refine r_geti dX5_takeFrom_10 fl_X5_30 rfl ?_
  refine r_puti dX5_takeFrom_13 fl_X5_30 rfl rfl rfl ?_
  refine r_aload_n 0 rfl dX5_takeFrom_16 ?_
  refine r_aload_n 1 rfl dX5_takeFrom_17 ?_
  refine r_geti dX5_takeFrom_18 fl_X5_34 rfl ?_
  refine r_puti dX5_takeFrom_21 fl_X5_34 rfl rfl rfl ?_
  refine r_aload_n 0 rfl dX5_takeFrom_24 ?_
  refine r_aload_n 1 rfl dX5_takeFrom_25 ?_
  refine r_geti dX5_takeFrom_26 fl_X5_37 rfl ?_
  refine r_puti dX5_takeFrom_29 fl_X5_37 rfl rfl rfl ?_
  refine r_aload_n 0 rfl dX5_takeFrom_32 ?_
  refine r_aload_n 1 rfl dX5_takeFrom_33 ?_
  refine r_geti dX5_takeFrom_34 fl_X5_40 rfl ?_
  refine r_puti dX5_takeFrom_37 fl_X5_40 rfl rfl rfl ?_
  refine r_aload_n 0 rfl dX5_takeFrom_40 ?_
  refine r_aload_n 1 rfl dX5_takeFrom_41 ?_
  refine r_geti dX5_takeFrom_42 fl_X5_43 rfl ?_
  refine r_puti dX5_takeFrom_45 fl_X5_43 rfl rfl rfl ?_
  refine r_aload_n 0 rfl dX5_takeFrom_48 ?_
  refine r_aload_n 1 rfl dX5_takeFrom_49 ?_
  refine r_geti dX5_takeFrom_50 fl_X5_46 rfl ?_
  refine r_puti dX5_takeFrom_53 fl_X5_46 rfl rfl rfl ?_
  refine r_iconst (v := 0) rfl dX5_takeFrom_56 ?_
  refine r_istore_n (ls2 := [(2, .int 0), (0, .ref 1), (1, .ref 16)]) dX5_takeFrom_57 (by decide) rfl ?_
  refine r_mem ?_ rfl rfl (l1 0 (by decide))
  funext b j
  simp only [u2, tkC, tkF]
  grind
end mach2

/-! the reference: the fewest PRIMES -/
theorem lsI_eq {H : Nat → Int64} {k : Int32} {i : Nat} (hb : hasL (H i) k = true) : ∀ m, i < m → (∀ j, i < j → j < m → hasL (H j) k = false) → lsI H k m = i
  | 0, h, _ => absurd h (Nat.not_lt_zero i)
  | m + 1, h, hn => by
    rw [lsI]
    by_cases e : i = m
    · subst e
      rw [if_pos hb]
    · rw [if_neg (by rw [hn m (by omega) (by omega)]; decide)]
      exact lsI_eq hb m (by omega) (fun j h1 h2 => hn j h1 (by omega))
/-- n = 0, 1 .. tried, c of them */ -/
def cvS (H : Nat → Int64) (np nr : Nat) (all : Int64) : Nat → Nat → (Nat → Int32) → Int32 × (Nat → Int32)
  | 0, _, row => (6, row)
  | c + 1, m, row => if (cho H np nr m 0 0 all row).1 = true then (nI m, (cho H np nr m 0 0 all row).2) else cvS H np nr all c (m + 1) (cho H np nr m 0 0 all row).2
/-- what FEWEST of a FUNCTION is, as the reference keeps it -/
def cqR (H : Nat → Int64) (np K : Nat) (c : Int32) (row : Nat → Int32) : Prop := if lcO (cbO H (-1) np) K = none then ∃ (H2 : Nat → Int64) (r0 : Nat → Int32), (∀ i, i < np → H2 i = H i) ∧ c = (cvS H2 np K (bitL K - 1) 6 0 r0).1 ∧ ∀ m, m ≤ 5 → c = nI m → ∀ k, k < m → row k = (cvS H2 np K (bitL K - 1) 6 0 r0).2 k else c = -2
def rJ (cq : Nat → Int32 → (Nat → Int32) → Prop) (W : Mi) : Prop := ∀ f, f < 5 → W 141 f = 0 ∨ (W 141 f = 1 ∧ W 140 f = 1 ∧ cq f (W 145 f) (fun k => W 146 (5 * f + k)))
section rcover2
variable {X : xG} {n : Nat} {MI : Nat → Nat → Int32} {ML : Nat → Nat → Int64} {MR : Nat → Nat → Option Nat}
set_option maxRecDepth 100000 in
theorem c_X11_lastThatHas (hM : x_Lay MR) {f K np : Nat} (hf : f < 5) (hK : K ≤ 33) (hKr : MI 124 32 = nI K) (hnp : np ≤ 729) (hnr : MI 143 f = nI np) (hcv : ∀ k, k < K → ∃ i, i < np ∧ hasL (ML 148 i) (nI k) = true) {left : Int64} : Cf X yX11_lastThatHas cX11_lastThatHas 7 (some .int) 2 [.ref 124, .int (nI f), .long left] n SH MI ML MR (some (.int (nI (lsV (ML 148) np left K)))) MI ML MR := by
  have cf : (nI f).toNatClampNeg = f := nI_clamp (by omega)
  refine Ct_of (by decide) (Nat.le_of_ble_eq_true rfl) (fun G hG => ?_)
  have loop : ∀ k, k ≤ K → RW X G RX11 cX11_lastThatHas 7 (x_rm 2 0 0) n SH MI ML MR 0 0 11 [(5, .int (nI k)), (4, .int (nI (lsV (ML 148) np left k))), (0, .ref 124), (1, .int (nI f)), (2, .long left)] [] := by
    refine bwd (fun k hk ih => ?_)
    have hle := lsV_le (H := ML 148) (np := np) (left := left) k
    have inner : k < K → hasL left (nI k) = true → ∀ i, i < np → (∀ j, i < j → j < np → hasL (ML 148 j) (nI k) = false) → RW X G RX11 cX11_lastThatHas 7 (x_rm 2 0 0) n SH MI ML MR 0 0 42 [(6, .int (nI i)), (5, .int (nI k)), (4, .int (nI (lsV (ML 148) np left k))), (0, .ref 124), (1, .int (nI f)), (2, .long left)] [] := by
      intro hlt hbk i
      have zq := ih hlt
      rw [lsV, if_pos hbk] at zq
      induction i with
      | zero =>
        intro hi hn
        have hb0 : hasL (ML 148 0) (nI k) = true := by
          obtain ⟨j, hj, hjb⟩ := hcv k hlt
          cases j with
          | zero => exact hjb
          | succ j => rw [hn (j + 1) (by omega) hj] at hjb; exact absurd hjb (by decide)
        have els := lsI_eq hb0 np hi hn
        rw [els] at zq
        have c0 : (nI 0).toNatClampNeg = 0 := nI_clamp (by decide)
        refine r_aload_n 3 rfl dX11_lastThatHas_42 ?_
        refine r_getr dX11_lastThatHas_43 fl_X11_92 rfl (hM _ _ _ rfl) ?_
        refine r_iload 0 rfl dX11_lastThatHas_46 ?_
        refine r_lald dX11_lastThatHas_48 rfl (vp_in_nI (show 0 < 729 by decide) (by decide)) ?_
        refine r_iload 1 rfl dX11_lastThatHas_49 ?_
        refine r_Sf [.long _, .int _] dX11_lastThatHas_51 lk_X11_347 mb_X11_has sc_X11_has rfl (c_X11_has) rfl (Nat.le_of_ble_eq_true rfl) (rfl) ?_
        refine r_ifne (tgt := 63) dX11_lastThatHas_54 (by decide) (fun zh54 => ?_) (fun zh54 => ?_)
        rotate_left
        · exact absurd zh54 (b2n.mpr (by rw [c0]; exact hb0))
        refine r_iload 0 rfl dX11_lastThatHas_63 ?_
        refine r_iload 2 rfl dX11_lastThatHas_65 ?_
        refine r_icmpge (tgt := 75) dX11_lastThatHas_67 (by decide) (fun zh67 => ?_) (fun zh67 => ?_)
        · refine r_iload 2 rfl dX11_lastThatHas_75 ?_
          refine r_nmi (fun zv77 ze77 => ?_)
          refine r_istore (ls2 := [(4, .int zv77), (6, .int (nI 0)), (5, .int (nI k)), (0, .ref 124), (1, .int (nI f)), (2, .long left)]) dX11_lastThatHas_77 (by decide) rfl ?_
          refine r_iinc (v := (nI (k + 1))) (ls2 := [(5, .int (nI (k + 1))), (4, .int zv77), (6, .int (nI 0)), (0, .ref 124), (1, .int (nI f)), (2, .long left)]) 2 dX11_lastThatHas_79 rfl (x_inc k) (by decide) rfl ?_
          refine r_goto (tgt := 11) dX11_lastThatHas_82 (by decide) ?_
          first
            | (have z1 : 0 < lsV (ML 148) np left k := ltL (by omega) zh67
               rw [if_pos z1] at zq; subst ze77; exact r_sub [0, 1, 3, 4, 5] rfl zq)
            | (have z1 : ¬ 0 < lsV (ML 148) np left k := fun z => nI_ge z (by omega) zh67
               rw [if_neg z1] at zq; subst ze77; exact r_sub [0, 1, 3, 4, 5] rfl zq)
        · refine r_iload 0 rfl dX11_lastThatHas_70 ?_
          refine r_goto (tgt := 77) dX11_lastThatHas_72 (by decide) ?_
          refine r_nmi (fun zv77 ze77 => ?_)
          refine r_istore (ls2 := [(4, .int zv77), (6, .int (nI 0)), (5, .int (nI k)), (0, .ref 124), (1, .int (nI f)), (2, .long left)]) dX11_lastThatHas_77 (by decide) rfl ?_
          refine r_iinc (v := (nI (k + 1))) (ls2 := [(5, .int (nI (k + 1))), (4, .int zv77), (6, .int (nI 0)), (0, .ref 124), (1, .int (nI f)), (2, .long left)]) 2 dX11_lastThatHas_79 rfl (x_inc k) (by decide) rfl ?_
          refine r_goto (tgt := 11) dX11_lastThatHas_82 (by decide) ?_
          first
            | (have z1 : 0 < lsV (ML 148) np left k := ltL (by omega) zh67
               rw [if_pos z1] at zq; subst ze77; exact r_sub [0, 1, 3, 4, 5] rfl zq)
            | (have z1 : ¬ 0 < lsV (ML 148) np left k := fun z => nI_ge z (by omega) zh67
               rw [if_neg z1] at zq; subst ze77; exact r_sub [0, 1, 3, 4, 5] rfl zq)
      | succ i ihi =>
        intro hi hn
        have ci : (nI (i + 1)).toNatClampNeg = i + 1 := nI_clamp (by omega)
        by_cases hb : hasL (ML 148 (i + 1)) (nI k) = true
        · have els := lsI_eq hb np hi hn
          rw [els] at zq
          refine r_aload_n 3 rfl dX11_lastThatHas_42 ?_
          refine r_getr dX11_lastThatHas_43 fl_X11_92 rfl (hM _ _ _ rfl) ?_
          refine r_iload 0 rfl dX11_lastThatHas_46 ?_
          refine r_lald dX11_lastThatHas_48 rfl (vp_in_nI (show i + 1 < 729 by omega) (by decide)) ?_
          refine r_iload 1 rfl dX11_lastThatHas_49 ?_
          refine r_Sf [.long _, .int _] dX11_lastThatHas_51 lk_X11_347 mb_X11_has sc_X11_has rfl (c_X11_has) rfl (Nat.le_of_ble_eq_true rfl) (rfl) ?_
          refine r_ifne (tgt := 63) dX11_lastThatHas_54 (by decide) (fun zh54 => ?_) (fun zh54 => ?_)
          rotate_left
          · exact absurd zh54 (b2n.mpr (by rw [ci]; exact hb))
          refine r_iload 0 rfl dX11_lastThatHas_63 ?_
          refine r_iload 2 rfl dX11_lastThatHas_65 ?_
          refine r_icmpge (tgt := 75) dX11_lastThatHas_67 (by decide) (fun zh67 => ?_) (fun zh67 => ?_)
          · refine r_iload 2 rfl dX11_lastThatHas_75 ?_
            refine r_nmi (fun zv77 ze77 => ?_)
            refine r_istore (ls2 := [(4, .int zv77), (6, .int (nI (i + 1))), (5, .int (nI k)), (0, .ref 124), (1, .int (nI f)), (2, .long left)]) dX11_lastThatHas_77 (by decide) rfl ?_
            refine r_iinc (v := (nI (k + 1))) (ls2 := [(5, .int (nI (k + 1))), (4, .int zv77), (6, .int (nI (i + 1))), (0, .ref 124), (1, .int (nI f)), (2, .long left)]) 2 dX11_lastThatHas_79 rfl (x_inc k) (by decide) rfl ?_
            refine r_goto (tgt := 11) dX11_lastThatHas_82 (by decide) ?_
            first
              | (have z1 : i + 1 < lsV (ML 148) np left k := ltL (by omega) zh67
                 rw [if_pos z1] at zq; subst ze77; exact r_sub [0, 1, 3, 4, 5] rfl zq)
              | (have z1 : ¬ i + 1 < lsV (ML 148) np left k := fun z => nI_ge z (by omega) zh67
                 rw [if_neg z1] at zq; subst ze77; exact r_sub [0, 1, 3, 4, 5] rfl zq)
          · refine r_iload 0 rfl dX11_lastThatHas_70 ?_
            refine r_goto (tgt := 77) dX11_lastThatHas_72 (by decide) ?_
            refine r_nmi (fun zv77 ze77 => ?_)
            refine r_istore (ls2 := [(4, .int zv77), (6, .int (nI (i + 1))), (5, .int (nI k)), (0, .ref 124), (1, .int (nI f)), (2, .long left)]) dX11_lastThatHas_77 (by decide) rfl ?_
            refine r_iinc (v := (nI (k + 1))) (ls2 := [(5, .int (nI (k + 1))), (4, .int zv77), (6, .int (nI (i + 1))), (0, .ref 124), (1, .int (nI f)), (2, .long left)]) 2 dX11_lastThatHas_79 rfl (x_inc k) (by decide) rfl ?_
            refine r_goto (tgt := 11) dX11_lastThatHas_82 (by decide) ?_
            first
              | (have z1 : i + 1 < lsV (ML 148) np left k := ltL (by omega) zh67
                 rw [if_pos z1] at zq; subst ze77; exact r_sub [0, 1, 3, 4, 5] rfl zq)
              | (have z1 : ¬ i + 1 < lsV (ML 148) np left k := fun z => nI_ge z (by omega) zh67
                 rw [if_neg z1] at zq; subst ze77; exact r_sub [0, 1, 3, 4, 5] rfl zq)
        · have hbf : hasL (ML 148 (i + 1)) (nI k) = false := Bool.eq_false_iff.mpr hb
          refine r_aload_n 3 rfl dX11_lastThatHas_42 ?_
          refine r_getr dX11_lastThatHas_43 fl_X11_92 rfl (hM _ _ _ rfl) ?_
          refine r_iload 0 rfl dX11_lastThatHas_46 ?_
          refine r_lald dX11_lastThatHas_48 rfl (vp_in_nI (show i + 1 < 729 by omega) (by decide)) ?_
          refine r_iload 1 rfl dX11_lastThatHas_49 ?_
          refine r_Sf [.long _, .int _] dX11_lastThatHas_51 lk_X11_347 mb_X11_has sc_X11_has rfl (c_X11_has) rfl (Nat.le_of_ble_eq_true rfl) (rfl) ?_
          refine r_ifne (tgt := 63) dX11_lastThatHas_54 (by decide) (fun zh54 => ?_) (fun zh54 => ?_)
          · exact absurd zh54 (fun q => q (b2z.mpr (by rw [ci]; exact hbf)))
          refine r_iinc (v := (nI i)) (ls2 := [(6, .int (nI i)), (5, .int (nI k)), (4, .int (nI (lsV (ML 148) np left k))), (0, .ref 124), (1, .int (nI f)), (2, .long left)]) 0 dX11_lastThatHas_57 rfl (x_dec i) (by decide) rfl ?_
          refine r_goto (tgt := 42) dX11_lastThatHas_60 (by decide) ?_
          exact r_sub [0, 1, 2, 3, 4, 5] rfl (ihi (by omega) (fun j h1 h2 => by rcases Nat.lt_or_ge (i + 1) j with z | z; exact hn j z h2; obtain rfl : j = i + 1 := (by omega); exact hbf))
    refine r_iload 0 rfl dX11_lastThatHas_11 ?_
    refine r_aload_n 2 rfl dX11_lastThatHas_13 ?_
    refine r_geti dX11_lastThatHas_14 fl_X11_358 rfl ?_
    refine r_icmpge (tgt := 85) dX11_lastThatHas_17 (by decide) (fun zh17 => ?_) (fun zh17 => ?_)
    · rw [hKr] at zh17
      obtain rfl : K = k := by have := geL (k := K) (by omega) (by omega) zh17; omega
      refine r_iload 1 rfl dX11_lastThatHas_85 ?_
      exact r_iret hG dX11_lastThatHas_87 (⟨rfl, rfl, rfl, rfl⟩)
    · rw [hKr] at zh17
      have hlt : k < K := ltL (by omega) zh17
      refine r_lload_n 4 rfl dX11_lastThatHas_20 ?_
      refine r_iload 0 rfl dX11_lastThatHas_21 ?_
      refine r_Sf [.long _, .int _] dX11_lastThatHas_23 lk_X11_347 mb_X11_has sc_X11_has rfl (c_X11_has) rfl (Nat.le_of_ble_eq_true rfl) (rfl) ?_
      refine r_ifne (tgt := 32) dX11_lastThatHas_26 (by decide) (fun zh26 => ?_) (fun zh26 => ?_)
      · have zb : hasL left (nI k) = true := b2n.mp zh26
        obtain ⟨zi, hzi, hzb⟩ := hcv k hlt
        have hn1 : nI np - 1 = nI (np - 1) := by have h := nI_pred (np - 1); rw [show np - 1 + 1 = np by omega] at h; exact h
        refine r_aload_n 2 rfl dX11_lastThatHas_32 ?_
        refine r_getr dX11_lastThatHas_33 fl_X11_77 rfl (hM _ _ _ rfl) ?_
        refine r_iload_n 3 rfl dX11_lastThatHas_36 ?_
        refine r_iald dX11_lastThatHas_37 rfl (vp_in_nI hf (by decide)) ?_
        refine r_iconst (v := 1) rfl dX11_lastThatHas_38 ?_
        refine r_isub dX11_lastThatHas_39 ?_
        rw [cf, hnr, hn1]
        refine r_istore (ls2 := [(6, .int (nI (np - 1))), (5, .int (nI k)), (4, .int (nI (lsV (ML 148) np left k))), (0, .ref 124), (1, .int (nI f)), (2, .long left)]) dX11_lastThatHas_40 (by decide) rfl ?_
        exact r_sub [0, 1, 2, 3, 4, 5] rfl (inner hlt zb (np - 1) (by omega) (fun j h1 h2 => by omega))
      · refine r_goto (tgt := 79) dX11_lastThatHas_29 (by decide) ?_
        refine r_iinc (v := (nI (k + 1))) (ls2 := [(5, .int (nI (k + 1))), (4, .int (nI (lsV (ML 148) np left k))), (0, .ref 124), (1, .int (nI f)), (2, .long left)]) 0 dX11_lastThatHas_79 rfl (x_inc k) (by decide) rfl ?_
        refine r_goto (tgt := 11) dX11_lastThatHas_82 (by decide) ?_
        have zb : ¬ hasL left (nI k) = true := by rw [b2z.mp zh26]; decide
        have zq := ih hlt
        rw [lsV, if_neg zb] at zq
        exact zq
  refine r_aload_n 0 rfl dX11_lastThatHas_0 ?_
  refine r_getr dX11_lastThatHas_1 fl_X11_77 rfl (hM _ _ _ rfl) ?_
  refine r_iload_n 1 rfl dX11_lastThatHas_4 ?_
  refine r_iald dX11_lastThatHas_5 rfl (vp_in_nI hf (by decide)) ?_
  rw [cf, hnr]
  refine r_istore (ls2 := [(4, .int (nI np)), (0, .ref 124), (1, .int (nI f)), (2, .long left)]) dX11_lastThatHas_6 (by decide) rfl ?_
  refine r_iconst (v := 0) rfl dX11_lastThatHas_8 ?_
  refine r_istore (ls2 := [(5, .int 0), (4, .int (nI np)), (0, .ref 124), (1, .int (nI f)), (2, .long left)]) dX11_lastThatHas_9 (by decide) rfl ?_
  exact r_sub [0, 1, 2, 3, 4] rfl (loop 0 (Nat.zero_le _))
set_option maxRecDepth 100000 in
theorem c_X11_chooses (hM : x_Lay MR) {f K np N : Nat} (hf : f < 5) (hN : N ≤ 5) (hK : K ≤ 33) (hKr : MI 124 32 = nI K) (hnp : np ≤ 729) (hnr : MI 143 f = nI np) (hcv : ∀ k, k < K → ∃ i, i < np ∧ hasL (ML 148 i) (nI k) = true) {Sb : Int64 → Prop} (hS1 : ∀ l, Sb l → ¬ l = 0 → ∃ k, k < K ∧ hasL l (nI k) = true) (hS2 : ∀ l x, Sb l → Sb (l &&& x)) : ∀ m k, k + m = N → ∀ fm left row, fm ≤ np → Sb left → Cf X yX11_chooses cX11_chooses 9 (some .boolean) (3 + m) [.ref 124, .int (nI f), .int (nI k), .int (nI N), .int (nI fm), .long left] n SH (sr MI 147 row) ML MR (some (.int (b2 (cho (ML 148) np K m k fm left row).1))) (sr MI 147 (cho (ML 148) np K m k fm left row).2) ML MR := by
  intro m
  induction m with
  | zero =>
    intro k hkN fm left row hfm hSb
    obtain rfl : k = N := by omega
    refine Ct_of (by decide) (Nat.le_of_ble_eq_true rfl) (fun G hG => ?_)
    refine r_lload 5 rfl dX11_chooses_0 ?_
    refine r_lconst (v := 0) rfl dX11_chooses_2 ?_
    refine r_lcmp dX11_chooses_3 ?_
    refine r_ifne (tgt := 18) dX11_chooses_4 (by decide) (fun zh4 => ?_) (fun zh4 => ?_)
    · refine r_iload_n 2 rfl dX11_chooses_18 ?_
      refine r_iload_n 3 rfl dX11_chooses_19 ?_
      refine r_icmpne (tgt := 25) dX11_chooses_20 (by decide) (fun zh20 => ?_) (fun zh20 => ?_)
      · exact absurd zh20 (fun q => q rfl)
      refine r_iconst (v := 0) rfl dX11_chooses_23 ?_
      exact r_zret hG dX11_chooses_24 (rfl) (by
          rw [lcmp_eq] at zh4
          rw [cho]
          first
            | (rw [show decide (left = 0) = true from decide_eq_true zh4]; exact ⟨rfl, rfl, rfl, rfl⟩)
            | (rw [show decide (left = 0) = false from decide_eq_false zh4]; exact ⟨rfl, rfl, rfl, rfl⟩))
    · refine r_iload_n 2 rfl dX11_chooses_7 ?_
      refine r_iload_n 3 rfl dX11_chooses_8 ?_
      refine r_icmpne (tgt := 16) dX11_chooses_9 (by decide) (fun zh9 => ?_) (fun zh9 => ?_)
      · exact absurd zh9 (fun q => q rfl)
      refine r_iconst (v := 1) rfl dX11_chooses_12 ?_
      refine r_goto (tgt := 17) dX11_chooses_13 (by decide) ?_
      exact r_zret hG dX11_chooses_17 (rfl) (by
          rw [lcmp_eq] at zh4
          rw [cho]
          first
            | (rw [show decide (left = 0) = true from decide_eq_true zh4]; exact ⟨rfl, rfl, rfl, rfl⟩)
            | (rw [show decide (left = 0) = false from decide_eq_false zh4]; exact ⟨rfl, rfl, rfl, rfl⟩))
  | succ m ihm =>
    intro k hkN fm left row hfm hSb
    have hkne : ¬ nI k = nI N := fun e => absurd ((nI_eq (by omega) (by omega)).mp e) (by omega)
    by_cases h0 : left = 0
    · have ez : cho (ML 148) np K (m + 1) k fm left row = (false, row) := by rw [cho, if_pos h0]
      rw [ez]
      refine Ct_of (by decide) (Nat.le_of_ble_eq_true rfl) (fun G hG => ?_)
      refine r_lload 5 rfl dX11_chooses_0 ?_
      refine r_lconst (v := 0) rfl dX11_chooses_2 ?_
      refine r_lcmp dX11_chooses_3 ?_
      refine r_ifne (tgt := 18) dX11_chooses_4 (by decide) (fun zh4 => ?_) (fun zh4 => ?_)
      · exact absurd zh4 (fun q => q (lcmp_eq.mpr h0))
      refine r_iload_n 2 rfl dX11_chooses_7 ?_
      refine r_iload_n 3 rfl dX11_chooses_8 ?_
      refine r_icmpne (tgt := 16) dX11_chooses_9 (by decide) (fun zh9 => ?_) (fun zh9 => ?_)
      rotate_left
      · exact absurd zh9 (fun q => hkne q)
      refine r_iconst (v := 0) rfl dX11_chooses_16 ?_
      exact r_zret hG dX11_chooses_17 (rfl) (⟨rfl, rfl, rfl, rfl⟩)
    · obtain ⟨kb, hkb, hbb⟩ := hS1 left hSb h0
      have hnp0 : 0 < np := by obtain ⟨i, hi, -⟩ := hcv kb hkb; omega
      have hlast := lsV_lt (H := ML 148) (left := left) hnp0 K kb hkb hbb
      obtain ⟨la, hla⟩ : ∃ la, la = lsV (ML 148) np left K := ⟨_, rfl⟩
      rw [← hla] at hlast
      obtain ⟨z, hz⟩ : ∃ z, z = choL (ML 148) left k (cho (ML 148) np K m (k + 1)) (la + 1 - fm) fm row := ⟨_, rfl⟩
      have ez : cho (ML 148) np K (m + 1) k fm left row = z := by rw [cho, if_neg h0, ← hla, hz]
      rw [ez]
      have e143 : ∀ r, sr MI 147 r 143 f = nI np := fun r => by rw [sr_ne _ _ (by decide), hnr]
      have e32 : ∀ r, sr MI 147 r 124 32 = nI K := fun r => by rw [sr_ne _ _ (by decide), hKr]
      refine Ct_of (by decide) (Nat.le_of_ble_eq_true rfl) (fun G hG => ?_)
      have loop : ∀ i, i ≤ np → fm ≤ i → ∀ rw2, choL (ML 148) left k (cho (ML 148) np K m (k + 1)) (la + 1 - i) i rw2 = z → RW X G RX11 cX11_chooses 9 (x_rm (3 + (m + 1)) 0 0) n SH (sr MI 147 rw2) ML MR 0 0 38 [(8, .int (nI i)), (7, .int (nI la)), (0, .ref 124), (1, .int (nI f)), (2, .int (nI k)), (3, .int (nI N)), (4, .int (nI fm)), (5, .long left)] [] := by
        refine bwd (fun i hi ih hfi rw2 hq => ?_)
        have ci : i ≤ la → (nI i).toNatClampNeg = i := fun _ => nI_clamp (by omega)
        have hput : sr MI 147 (up rw2 k (nI i)) = u2 (sr MI 147 rw2) 147 k (nI i) := by rw [u2_sr, sr_eq, sr_sr]
        refine r_iload 0 rfl dX11_chooses_38 ?_
        refine r_iload 1 rfl dX11_chooses_40 ?_
        refine r_icmpgt (tgt := 109) dX11_chooses_42 (by decide) (fun zh42 => ?_) (fun zh42 => ?_)
        · have hil : la < i := (nI_ltI (by omega) (by omega)).mp zh42
          rw [show la + 1 - i = 0 by omega, choL] at hq
          refine r_iconst (v := 0) rfl dX11_chooses_109 ?_
          exact r_zret hG dX11_chooses_110 (rfl) (by rw [← hq]; exact ⟨rfl, rfl, rfl, rfl⟩)
        · have hil : i ≤ la := Nat.not_lt.mp (fun z => zh42 (nI_lt z (by omega)))
          rw [show la + 1 - i = (la + 1 - (i + 1)) + 1 by omega, choL] at hq
          refine r_aload_n 2 rfl dX11_chooses_45 ?_
          refine r_getr dX11_chooses_46 fl_X11_92 rfl (hM _ _ _ rfl) ?_
          refine r_iload 0 rfl dX11_chooses_49 ?_
          refine r_lald dX11_chooses_51 rfl (vp_in_nI (show i < 729 by omega) (by decide)) ?_
          refine r_lload 7 rfl dX11_chooses_52 ?_
          refine r_land dX11_chooses_54 ?_
          refine r_lconst (v := 0) rfl dX11_chooses_55 ?_
          refine r_lcmp dX11_chooses_56 ?_
          refine r_ifne (tgt := 63) dX11_chooses_57 (by decide) (fun zh57 => ?_) (fun zh57 => ?_)
          · rw [ci hil, lcmp_eq] at zh57
            rw [if_neg zh57] at hq
            have hrec : Cf X yX11_chooses cX11_chooses 9 (some .boolean) (3 + m) [.ref 124, .int (nI f), .int (nI k + 1), .int (nI N), .int (nI i + 1), .long (left &&& (ML 148 (nI i).toNatClampNeg ^^^ -1))] n SH (u2 (sr MI 147 rw2) 147 (nI k).toNatClampNeg (nI i)) ML MR (some (.int (b2 (cho (ML 148) np K m (k + 1) (i + 1) (left &&& (ML 148 i ^^^ -1)) (up rw2 k (nI i))).1))) (sr MI 147 (cho (ML 148) np K m (k + 1) (i + 1) (left &&& (ML 148 i ^^^ -1)) (up rw2 k (nI i))).2) ML MR := by
              rw [ci hil, nI_1, nI_1, nI_clamp (show k < 2 ^ 31 by omega), ← hput]
              exact ihm (k + 1) (by omega) (i + 1) _ _ (by omega) (hS2 _ _ hSb)
            refine r_aload_n 2 rfl dX11_chooses_63 ?_
            refine r_getr dX11_chooses_64 fl_X11_89 rfl (hM _ _ _ rfl) ?_
            refine r_iload_n 4 rfl dX11_chooses_67 ?_
            refine r_iload 0 rfl dX11_chooses_68 ?_
            refine r_iast dX11_chooses_70 rfl (vp_in_nI (show k < 5 by omega) (by decide)) ?_
            refine r_aload_n 2 rfl dX11_chooses_71 ?_
            refine r_iload_n 3 rfl dX11_chooses_72 ?_
            refine r_iload_n 4 rfl dX11_chooses_73 ?_
            refine r_iconst (v := 1) rfl dX11_chooses_74 ?_
            refine r_iadd dX11_chooses_75 ?_
            refine r_iload_n 5 rfl dX11_chooses_76 ?_
            refine r_iload 0 rfl dX11_chooses_77 ?_
            refine r_iconst (v := 1) rfl dX11_chooses_79 ?_
            refine r_iadd dX11_chooses_80 ?_
            refine r_lload 7 rfl dX11_chooses_81 ?_
            refine r_aload_n 2 rfl dX11_chooses_83 ?_
            refine r_getr dX11_chooses_84 fl_X11_92 rfl (hM _ _ _ rfl) ?_
            refine r_iload 0 rfl dX11_chooses_87 ?_
            refine r_lald dX11_chooses_89 rfl (vp_in_nI (show i < 729 by omega) (by decide)) ?_
            refine r_ldc2 kl_X11_117 dX11_chooses_90 ?_
            refine r_lxor dX11_chooses_93 ?_
            refine r_land dX11_chooses_94 ?_
            refine r_Vf [.int _, .int _, .int _, .int _, .long _] dX11_chooses_95 lk_X11_404 mb_X11_chooses in_X11_chooses se_X11_chooses rfl (hrec) rfl rfl rfl (Nat.le_of_ble_eq_true rfl) (x_fitD (by omega) (by decide)) ?_
            refine r_ifeq (tgt := 103) dX11_chooses_98 (by decide) (fun zh98 => ?_) (fun zh98 => ?_)
            · try rw [ci hil, lcmp_eq] at zh57
              refine r_iinc (v := (nI (i + 1))) (ls2 := [(8, .int (nI (i + 1))), (7, .int (nI la)), (0, .ref 124), (1, .int (nI f)), (2, .int (nI k)), (3, .int (nI N)), (4, .int (nI fm)), (5, .long left)]) 0 dX11_chooses_103 rfl (x_inc i) (by decide) rfl ?_
              refine r_goto (tgt := 38) dX11_chooses_106 (by decide) ?_
              first
                | (have z1 : ¬ (cho (ML 148) np K m (k + 1) (i + 1) (left &&& (ML 148 i ^^^ -1)) (up rw2 k (nI i))).1 = true := by rw [b2z.mp zh98]; decide
                   rw [if_neg z1] at hq
                   exact ih (by omega) (by omega) _ hq)
                | (rw [if_pos zh57] at hq
                   exact ih (by omega) (by omega) _ hq)
            · refine r_iconst (v := 1) rfl dX11_chooses_101 ?_
              exact r_zret hG dX11_chooses_102 (rfl) (by rw [if_pos (b2n.mp zh98)] at hq; rw [← hq]; exact ⟨rfl, rfl, rfl, rfl⟩)
          · refine r_goto (tgt := 103) dX11_chooses_60 (by decide) ?_
            try rw [ci hil, lcmp_eq] at zh57
            refine r_iinc (v := (nI (i + 1))) (ls2 := [(8, .int (nI (i + 1))), (7, .int (nI la)), (0, .ref 124), (1, .int (nI f)), (2, .int (nI k)), (3, .int (nI N)), (4, .int (nI fm)), (5, .long left)]) 0 dX11_chooses_103 rfl (x_inc i) (by decide) rfl ?_
            refine r_goto (tgt := 38) dX11_chooses_106 (by decide) ?_
            first
              | (have z1 : ¬ (cho (ML 148) np K m (k + 1) (i + 1) (left &&& (ML 148 i ^^^ -1)) (up rw2 k (nI i))).1 = true := by rw [b2z.mp zh98]; decide
                 rw [if_neg z1] at hq
                 exact ih (by omega) (by omega) _ hq)
              | (rw [if_pos zh57] at hq
                 exact ih (by omega) (by omega) _ hq)
      refine r_lload 5 rfl dX11_chooses_0 ?_
      refine r_lconst (v := 0) rfl dX11_chooses_2 ?_
      refine r_lcmp dX11_chooses_3 ?_
      refine r_ifne (tgt := 18) dX11_chooses_4 (by decide) (fun zh4 => ?_) (fun zh4 => ?_)
      rotate_left
      · exact absurd zh4 (fun q => h0 (lcmp_eq.mp q))
      refine r_iload_n 2 rfl dX11_chooses_18 ?_
      refine r_iload_n 3 rfl dX11_chooses_19 ?_
      refine r_icmpne (tgt := 25) dX11_chooses_20 (by decide) (fun zh20 => ?_) (fun zh20 => ?_)
      rotate_left
      · exact absurd zh20 (hkne)
      refine r_aload_n 0 rfl dX11_chooses_25 ?_
      refine r_iload_n 1 rfl dX11_chooses_26 ?_
      refine r_lload 5 rfl dX11_chooses_27 ?_
      refine r_Vf [.int _, .long _] dX11_chooses_29 lk_X11_408 mb_X11_lastThatHas in_X11_lastThatHas se_X11_lastThatHas rfl (c_X11_lastThatHas hM hf hK (e32 _) hnp (e143 _) hcv) rfl rfl rfl (Nat.le_of_ble_eq_true rfl) (x_fitD (by omega) (by decide)) ?_
      rw [← hla]
      refine r_istore (ls2 := [(7, .int (nI la)), (0, .ref 124), (1, .int (nI f)), (2, .int (nI k)), (3, .int (nI N)), (4, .int (nI fm)), (5, .long left)]) dX11_chooses_32 (by decide) rfl ?_
      refine r_iload 5 rfl dX11_chooses_34 ?_
      refine r_istore (ls2 := [(8, .int (nI fm)), (7, .int (nI la)), (0, .ref 124), (1, .int (nI f)), (2, .int (nI k)), (3, .int (nI N)), (4, .int (nI fm)), (5, .long left)]) dX11_chooses_36 (by decide) rfl ?_
      exact r_sub [0, 1, 2, 3, 4, 5, 6, 7] rfl (loop fm hfm (Nat.le_refl _) row hz.symm)
end rcover2

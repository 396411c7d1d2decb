/-! class and reference agree: TOKENS -/
/-- a byte as the machine has it -/
def byI (n : Nat) : Int32 := if n < 128 then nI n else nI n - 256
def isBy (T : Nat → Int32) : Prop := ∀ j, ∃ n, n < 256 ∧ T j = byI n
def bN (T : Nat → Int32) (p : Nat) : Nat := (T p &&& 255).toNatClampNeg
theorem kb1 : ∀ n, n < 256 → byI n &&& 255 = nI n := by decide +kernel
theorem kb2 : ∀ n, n < 256 → (decide (¬ byI n < 32 ∧ ¬ (32 : Int32) < byI n)) = decide (n = 32) := by decide +kernel
theorem kb3 : ∀ n, n < 256 → (decide (¬ byI n < 97 ∧ ¬ (122 : Int32) < byI n)) = decide (97 ≤ n ∧ n ≤ 122) := by decide +kernel
theorem kb4 : ∀ n, n < 256 → (decide (¬ byI n < 48 ∧ ¬ (57 : Int32) < byI n)) = decide (48 ≤ n ∧ n ≤ 57) := by decide +kernel
theorem kb5 : ∀ n, n < 256 → inB (nI n) 97 122 = decide (97 ≤ n ∧ n ≤ 122) := by decide +kernel
theorem kb6 : ∀ n, n < 256 → inB (nI n) 48 57 = decide (48 ≤ n ∧ n ≤ 57) := by decide +kernel
theorem kb7 : ∀ n, n < 256 → decide (ixV 8 (nI n) < 0) = !isSg (nI n) := by decide +kernel
theorem kb8 : ∀ n, n < 256 → ixV 4 (nI n) = if 97 ≤ n ∧ n ≤ 100 then nI n - 97 else -1 := by decide +kernel
theorem kb9 : ∀ n, n < 256 → ixV 5 (nI n) = if 112 ≤ n ∧ n ≤ 114 then nI n - 112 else -1 := by decide +kernel
theorem kb10 : ∀ n, n < 256 → ixV 7 (nI n) = if 97 ≤ n ∧ n ≤ 100 then nI n - 97 else if 115 ≤ n ∧ n ≤ 116 then 4 + (nI n - 115) else -1 := by decide +kernel
theorem kb11 : ∀ n, n < 256 → ixV 6 (nI n) = if 112 ≤ n ∧ n ≤ 114 then nI n - 112 else if 115 ≤ n ∧ n ≤ 116 then 3 + (nI n - 115) else -1 := by decide +kernel
theorem kb12 : ∀ n, n < 256 → (decide (¬ nI n < 97 ∧ ¬ (122 : Int32) < nI n)) = decide (97 ≤ n ∧ n ≤ 122) := by decide +kernel
theorem kb13 : ∀ n, n < 256 → (decide (¬ nI n < 48 ∧ ¬ (57 : Int32) < nI n)) = decide (48 ≤ n ∧ n ≤ 57) := by decide +kernel
section tok
variable {T : Nat → Int32} {L : Nat} (hT : isBy T)
theorem by_n (hT : isBy T) (p : Nat) : bN T p < 256 ∧ T p &&& 255 = nI (bN T p) ∧ T p = byI (bN T p) := by
  obtain ⟨n, hn, e⟩ := hT p
  have h : bN T p = n := by unfold bN; rw [e, kb1 n hn, nI_clamp (by omega)]
  rw [h]
  exact ⟨hn, by rw [e, kb1 n hn], e⟩
theorem byV_n (hT : isBy T) {p : Nat} (hp : p < L) : byV T L p = nI (bN T p) := by unfold byV; rw [if_pos hp]; exact (by_n hT p).2.1
theorem byR_n (hT : isBy T) {p : Nat} (hp : p < L) : byR T L p = nI (bN T p) := by unfold byR; rw [if_pos hp]; exact (by_n hT p).2.1
theorem sk_eq (hT : isBy T) : ∀ k p, p + k = L → rowE T 32 32 k p = skR T L k p := by
  intro k
  induction k with
  | zero => intro p _; rfl
  | succ k ih =>
    intro p hp
    obtain ⟨h1, h2, h3⟩ := by_n hT p
    have e1 : (¬ T p < 32 ∧ ¬ (32 : Int32) < T p) ↔ bN T p = 32 := by
      have := kb2 _ h1
      rw [← h3, Bool.eq_iff_iff, decide_eq_true_eq, decide_eq_true_eq] at this
      exact this
    have e2 : byR T L p = 32 ↔ bN T p = 32 := by rw [byR_n hT (by omega)]; exact nI_eq (b := 32) (by omega) (by decide)
    rw [rowE, skR]
    by_cases z : bN T p = 32
    · rw [if_pos (e1.mpr z), if_pos (e2.mpr z)]; exact ih (p + 1) (by omega)
    · rw [if_neg (fun y => z (e1.mp y)), if_neg (fun y => z (e2.mp y))]
theorem wd_pos (hT : isBy T) {a : Nat} : ∀ k p w, p + k = L → (wdL T L a k (p, w)).1 = rowE T 97 122 k p := by
  intro k
  induction k with
  | zero => intro p w _; rfl
  | succ k ih =>
    intro p w hp
    obtain ⟨h1, h2, h3⟩ := by_n hT p
    have e1 : (¬ T p < 97 ∧ ¬ (122 : Int32) < T p) ↔ (97 ≤ bN T p ∧ bN T p ≤ 122) := by
      have := kb3 _ h1
      rw [← h3, Bool.eq_iff_iff, decide_eq_true_eq, decide_eq_true_eq] at this
      exact this
    have e2 : inB (byR T L p) 97 122 = true ↔ (97 ≤ bN T p ∧ bN T p ≤ 122) := by rw [byR_n hT (by omega), kb5 _ h1, decide_eq_true_eq]
    rw [rowE, wdL]
    by_cases z : 97 ≤ bN T p ∧ bN T p ≤ 122
    · rw [if_pos (e1.mpr z), if_pos (e2.mpr z)]; exact ih (p + 1) _ (by omega)
    · rw [if_neg (fun y => z (e1.mp y)), if_neg (fun y => z (e2.mp y))]
theorem nb_pos (hT : isBy T) {a : Nat} : ∀ k p w, p + k = L → (nbL T L a k (p, w)).1 = rowE T 48 57 k p := by
  intro k
  induction k with
  | zero => intro p w _; rfl
  | succ k ih =>
    intro p w hp
    obtain ⟨h1, h2, h3⟩ := by_n hT p
    have e1 : (¬ T p < 48 ∧ ¬ (57 : Int32) < T p) ↔ (48 ≤ bN T p ∧ bN T p ≤ 57) := by
      have := kb4 _ h1
      rw [← h3, Bool.eq_iff_iff, decide_eq_true_eq, decide_eq_true_eq] at this
      exact this
    have e2 : inB (byR T L p) 48 57 = true ↔ (48 ≤ bN T p ∧ bN T p ≤ 57) := by rw [byR_n hT (by omega), kb6 _ h1, decide_eq_true_eq]
    rw [rowE, nbL]
    by_cases z : 48 ≤ bN T p ∧ bN T p ≤ 57
    · rw [if_pos (e1.mpr z), if_pos (e2.mpr z)]; exact ih (p + 1) _ (by omega)
    · rw [if_neg (fun y => z (e1.mp y)), if_neg (fun y => z (e2.mp y))]
theorem row_le : ∀ lo hi k p, p + k = L → p ≤ rowE T lo hi k p ∧ rowE T lo hi k p ≤ L := by
  intro lo hi k
  induction k with
  | zero => intro p hp; exact ⟨Nat.le_refl _, by rw [rowE]; omega⟩
  | succ k ih =>
    intro p hp
    rw [rowE]
    split
    · have := ih (p + 1) (by omega); omega
    · omega
/-- a row of letters as a number -/
def pkW (T : Nat → Int32) (a : Nat) : Nat → Nat
  | 0 => 0
  | m + 1 => 256 * pkW T a m + bN T (a + m)
theorem pkW_lt (hT : isBy T) (a : Nat) : ∀ m, pkW T a m < 256 ^ m := by
  intro m
  induction m with
  | zero => exact Nat.one_pos
  | succ m ih =>
    have := (by_n hT (a + m)).1
    rw [pkW, Nat.pow_succ]
    omega
theorem shl8 {n : Nat} (h : n < 2 ^ 55) (b : Nat) (hb : b < 256) : (lN n <<< (8 : Int64)) ||| (nI b).toInt64 = lN (256 * n + b) := by
  have e1 : lN n <<< (8 : Int64) = lN (256 * n) := by
    apply Int64.toBitVec_inj.mp
    rw [Int64.toBitVec_shiftLeft]
    show BitVec.ofNat 64 n <<< ((8 : Int64).toBitVec.smod 64) = BitVec.ofNat 64 (256 * n)
    rw [show (8 : Int64).toBitVec.smod 64 = 8#64 by decide, BitVec.shiftLeft_eq']
    apply BitVec.eq_of_toNat_eq
    rw [BitVec.toNat_shiftLeft, BitVec.toNat_ofNat, BitVec.toNat_ofNat, BitVec.toNat_ofNat, Nat.shiftLeft_eq, show 8 % 2 ^ 64 = 8 by decide, Nat.mod_eq_of_lt (show n < 2 ^ 64 by omega), show (2 : Nat) ^ 8 = 256 from rfl, Nat.mul_comm]
  have e2 : (nI b).toInt64 = lN b := by
    have h : ∀ b, b < 256 → (nI b).toInt64 = lN b := by decide +kernel
    exact h b hb
  rw [e1, e2]
  apply Int64.toBitVec_inj.mp
  rw [Int64.toBitVec_or]
  show BitVec.ofNat 64 (256 * n) ||| BitVec.ofNat 64 b = BitVec.ofNat 64 (256 * n + b)
  apply BitVec.eq_of_toNat_eq
  rw [BitVec.toNat_or, BitVec.toNat_ofNat, BitVec.toNat_ofNat, BitVec.toNat_ofNat, Nat.mod_eq_of_lt (show 256 * n < 2 ^ 64 by omega), Nat.mod_eq_of_lt (show b < 2 ^ 64 by omega), Nat.mod_eq_of_lt (show 256 * n + b < 2 ^ 64 by omega)]
  exact (Nat.two_pow_add_eq_or_of_lt (i := 8) hb n).symm
theorem wd_val (hT : isBy T) {a : Nat} : ∀ k p, p + k = L → a ≤ p → (wdL T L a k (p, lN (pkW T a (p - a)))).1 - a ≤ 5 → (wdL T L a k (p, lN (pkW T a (p - a)))).2 = lN (pkW T a ((wdL T L a k (p, lN (pkW T a (p - a)))).1 - a)) := by
  intro k
  induction k with
  | zero => intro p _ _ _; rfl
  | succ k ih =>
    intro p hp ha h5
    obtain ⟨h1, h2, h3⟩ := by_n hT p
    rw [wdL] at h5 ⊢
    by_cases z : inB (byR T L p) 97 122 = true
    · have z' : inB (byR T L (p, lN (pkW T a (p - a))).1) 97 122 = true := z
      rw [if_pos z'] at h5 ⊢
      have hlt : p - a < 5 := by
        have := (row_le (T := T) (L := L) 97 122 k (p + 1) (by omega)).1
        rw [wd_pos hT k (p + 1) _ (by omega)] at h5
        omega
      have hw := pkW_lt hT a (p - a)
      have hpow : 256 ^ (p - a) ≤ 256 ^ 4 := Nat.pow_le_pow_right (by decide) (by omega)
      have e : (if (p, lN (pkW T a (p - a))).1 - a < 5 then ((p, lN (pkW T a (p - a))).2 <<< (8 : Int64)) ||| (byR T L (p, lN (pkW T a (p - a))).1).toInt64 else (p, lN (pkW T a (p - a))).2) = lN (pkW T a (p + 1 - a)) := by
        rw [if_pos hlt, byR_n hT (by omega)]
        rw [shl8 (by have : (256 : Nat) ^ 4 = 4294967296 := by decide
                     omega) _ h1, show p + 1 - a = (p - a) + 1 by omega, pkW, show a + (p - a) = p by omega]
      rw [e] at h5 ⊢
      exact ih (p + 1) (by omega) (by omega) h5
    · have z' : ¬ inB (byR T L (p, lN (pkW T a (p - a))).1) 97 122 = true := z
      rw [if_neg z']
theorem nb_val (hT : isBy T) {a : Nat} : ∀ k p, p + k = L → a ≤ p → (nbL T L a k (p, whlP T L a (p - a))).1 - a ≤ 3 → (nbL T L a k (p, whlP T L a (p - a))).2 = whlP T L a ((nbL T L a k (p, whlP T L a (p - a))).1 - a) := by
  intro k
  induction k with
  | zero => intro p _ _ _; rfl
  | succ k ih =>
    intro p hp ha h5
    rw [nbL] at h5 ⊢
    by_cases z : inB (byR T L p) 48 57 = true
    · have z' : inB (byR T L (p, whlP T L a (p - a)).1) 48 57 = true := z
      rw [if_pos z'] at h5 ⊢
      have hlt : p - a < 3 := by
        have := (row_le (T := T) (L := L) 48 57 k (p + 1) (by omega)).1
        rw [nb_pos hT k (p + 1) _ (by omega)] at h5
        omega
      have e : (if (p, whlP T L a (p - a)).1 - a < 3 then 10 * (p, whlP T L a (p - a)).2 + byR T L (p, whlP T L a (p - a)).1 - 48 else (p, whlP T L a (p - a)).2) = whlP T L a (p + 1 - a) := by
        rw [if_pos hlt, show p + 1 - a = (p - a) + 1 by omega, whlP, show a + (p - a) = p by omega, byR_n hT (by omega), byV_n hT (by omega)]
        show 10 * whlP T L a (p - a) + nI (bN T p) - 48 = whlP T L a (p - a) * 10 + nI (bN T p) - 48
        rw [Int32.mul_comm]
      rw [e] at h5 ⊢
      exact ih (p + 1) (by omega) (by omega) h5
    · have z' : ¬ inB (byR T L (p, whlP T L a (p - a)).1) 48 57 = true := z
      rw [if_neg z']
theorem row_in (hT : isBy T) {lo hi : Nat} (lo' hi' : Int32) (hk : ∀ n, n < 256 → (decide (¬ byI n < lo' ∧ ¬ hi' < byI n)) = decide (lo ≤ n ∧ n ≤ hi)) : ∀ k p, ∀ j, p ≤ j → j < rowE T lo' hi' k p → lo ≤ bN T j ∧ bN T j ≤ hi := by
  intro k
  induction k with
  | zero => intro p j h1 h2; rw [rowE] at h2; omega
  | succ k ih =>
    intro p j h1 h2
    obtain ⟨g1, g2, g3⟩ := by_n hT p
    rw [rowE] at h2
    by_cases z : ¬ T p < lo' ∧ ¬ hi' < T p
    · rw [if_pos z] at h2
      rcases Nat.eq_or_lt_of_le h1 with y | y
      · subst y
        have := hk _ g1
        rw [← g3, decide_eq_true z] at this
        exact of_decide_eq_true this.symm
      · exact ih (p + 1) j y h2
    · rw [if_neg z] at h2; omega
theorem row_gt {lo hi : Int32} {k p : Nat} (hk : 0 < k) (h : ¬ T p < lo ∧ ¬ hi < T p) (hL : p + k = L) : p < rowE T lo hi k p := by
  cases k with
  | zero => omega
  | succ k =>
    rw [rowE, if_pos h]
    have := (row_le (T := T) (L := L) lo hi k (p + 1) (by omega)).1
    omega
/-- what a TOKEN at p is, for both -/
def tkc (T : Nat → Int32) (L p : Nat) (k1 : Int32) (n1 : Nat) (k2 : Int32) (n2 : Nat) (num : Int32) (w : Int64) : Prop :=
  (p = L ∧ k1 = 0 ∧ n1 = p ∧ k2 = 1 ∧ n2 = p) ∨
  (p < n1 ∧ n1 ≤ L ∧ k1 = 1 ∧ k2 = 2 ∧ n2 = n1 ∧ n1 - p ≤ 5 ∧ w = lN (pkW T p (n1 - p)) ∧ ∀ j, p ≤ j → j < n1 → 97 ≤ bN T j ∧ bN T j ≤ 122) ∨
  (p < n1 ∧ n1 ≤ L ∧ k1 = 2 ∧ k2 = 3 ∧ n2 = n1 ∧ n1 - p ≤ 3 ∧ num = whlP T L p (n1 - p) ∧ ∀ j, p ≤ j → j < n1 → 48 ≤ bN T j ∧ bN T j ≤ 57) ∨
  (p < L ∧ k1 = 3 ∧ n1 = p + 1 ∧ k2 = 4 ∧ n2 = p + 1 ∧ num = nI (bN T p)) ∨
  (k1 = 4 ∧ k2 = 0)
theorem tok_c (hT : isBy T) {p : Nat} (hp : p ≤ L) (r0 : Rs) : tkc T L p (tokQ T L p).1 (tokQ T L p).2 (nxQ T L p r0).2.2.2.1 (nxQ T L p r0).2.2.1 (nxQ T L p r0).2.2.2.2.1 (nxQ T L p r0).2.2.2.2.2.1 := by
  rcases Nat.eq_or_lt_of_le hp with z | z
  · subst z
    refine Or.inl ⟨rfl, ?_⟩
    unfold tokQ nxQ
    rw [if_pos (Nat.le_refl p), byR_L, if_pos rfl]
    exact ⟨rfl, rfl, rfl, rfl⟩
  · obtain ⟨h1, h2, h3⟩ := by_n hT p
    have hV := byV_n (L := L) hT z
    have hR := byR_n (L := L) hT z
    have hne : ¬ byR T L p = -1 := by rw [hR]; exact fun y => absurd (show nI (bN T p) < 0 by rw [y]; decide) (nI_pos (by omega))
    have eL : p + (L - p) = L := by omega
    unfold tokQ nxQ
    rw [if_neg (by omega), if_neg hne, hV, hR]
    have w1 : (¬ nI (bN T p) < 97 ∧ ¬ (122 : Int32) < nI (bN T p)) ↔ (97 ≤ bN T p ∧ bN T p ≤ 122) := by
      have := kb12 _ h1
      rw [Bool.eq_iff_iff, decide_eq_true_eq, decide_eq_true_eq] at this
      exact this
    have w2 : inB (nI (bN T p)) 97 122 = true ↔ (97 ≤ bN T p ∧ bN T p ≤ 122) := by rw [kb5 _ h1, decide_eq_true_eq]
    have w3 : (¬ nI (bN T p) < 48 ∧ ¬ (57 : Int32) < nI (bN T p)) ↔ (48 ≤ bN T p ∧ bN T p ≤ 57) := by
      have := kb13 _ h1
      rw [Bool.eq_iff_iff, decide_eq_true_eq, decide_eq_true_eq] at this
      exact this
    have w4 : inB (nI (bN T p)) 48 57 = true ↔ (48 ≤ bN T p ∧ bN T p ≤ 57) := by rw [kb6 _ h1, decide_eq_true_eq]
    by_cases c1 : 97 ≤ bN T p ∧ bN T p ≤ 122
    · rw [if_pos (w1.mpr c1), if_pos (w2.mpr c1)]
      have e1 := wd_pos hT (a := p) (L - p) p 0 eL
      have hw := wd_val hT (a := p) (L - p) p eL (Nat.le_refl _)
      rw [Nat.sub_self, show lN (pkW T p 0) = 0 from rfl, e1] at hw
      dsimp only
      rw [e1]
      have hgt : p < rowE T 97 122 (L - p) p := row_gt (by omega) (by
        have := kb3 _ h1
        rw [← h3, decide_eq_true c1] at this
        exact of_decide_eq_true this) eL
      have hle := (row_le (T := T) (L := L) 97 122 (L - p) p eL).2
      by_cases h5 : rowE T 97 122 (L - p) p - p ≤ 5
      · rw [if_pos h5, if_neg (by omega)]
        exact Or.inr (Or.inl ⟨hgt, hle, rfl, rfl, rfl, h5, hw h5, row_in hT 97 122 kb3 _ _⟩)
      · rw [if_neg h5, if_pos (by omega)]
        exact Or.inr (Or.inr (Or.inr (Or.inr ⟨rfl, rfl⟩)))
    · rw [if_neg (fun y => c1 (w1.mp y)), if_neg (fun y => c1 (w2.mp y))]
      by_cases c2 : 48 ≤ bN T p ∧ bN T p ≤ 57
      · rw [if_pos (w3.mpr c2), if_pos (w4.mpr c2)]
        have e1 := nb_pos hT (a := p) (L - p) p 0 eL
        have hw := nb_val hT (a := p) (L - p) p eL (Nat.le_refl _)
        rw [Nat.sub_self, show whlP T L p 0 = 0 from rfl, e1] at hw
        dsimp only
        rw [e1]
        have hgt : p < rowE T 48 57 (L - p) p := row_gt (by omega) (by
          have := kb4 _ h1
          rw [← h3, decide_eq_true c2] at this
          exact of_decide_eq_true this) eL
        have hle := (row_le (T := T) (L := L) 48 57 (L - p) p eL).2
        by_cases h5 : rowE T 48 57 (L - p) p - p ≤ 3
        · rw [if_pos h5, if_neg (by omega)]
          exact Or.inr (Or.inr (Or.inl ⟨hgt, hle, rfl, rfl, rfl, h5, hw h5, row_in hT 48 57 kb4 _ _⟩))
        · rw [if_neg h5, if_pos (by omega)]
          exact Or.inr (Or.inr (Or.inr (Or.inr ⟨rfl, rfl⟩)))
      · rw [if_neg (fun y => c2 (w3.mp y)), if_neg (fun y => c2 (w4.mp y))]
        have k7 := kb7 _ h1
        dsimp only
        cases hs : isSg (nI (bN T p))
        · rw [hs] at k7
          rw [if_pos (of_decide_eq_true k7), if_neg Bool.false_ne_true]
          exact Or.inr (Or.inr (Or.inr (Or.inr ⟨rfl, rfl⟩)))
        · rw [hs] at k7
          rw [if_neg (of_decide_eq_false k7), if_pos rfl, if_pos rfl]
          exact Or.inr (Or.inr (Or.inr (Or.inl ⟨z, rfl, rfl, rfl, rfl, rfl⟩)))
end tok

/-! bits of longs -/
def gb (p : Int64) (j : Nat) : Bool := p.toBitVec.getLsbD j
theorem gb_and (a b : Int64) (j : Nat) : gb (a &&& b) j = (gb a j && gb b j) := BitVec.getLsbD_and
theorem gb_or (a b : Int64) (j : Nat) : gb (a ||| b) j = (gb a j || gb b j) := BitVec.getLsbD_or
theorem ones64 : (-1 : Int64).toBitVec = BitVec.allOnes 64 := by decide
theorem gb_not (a : Int64) {j : Nat} (hj : j < 64) : gb (a ^^^ -1) j = !gb a j := by
  show (a.toBitVec ^^^ (-1 : Int64).toBitVec).getLsbD j = _
  rw [ones64, BitVec.getLsbD_xor, BitVec.getLsbD_allOnes, decide_eq_true hj]
  show (gb a j ^^ true) = !gb a j
  cases gb a j <;> rfl
theorem gb_ext {a b : Int64} (h : ∀ j, j < 64 → gb a j = gb b j) : a = b := Int64.toBitVec_inj.mp (BitVec.eq_of_getLsbD_eq h)
theorem gb_0 (j : Nat) : gb 0 j = false := by
  show (0#64).getLsbD j = false
  exact BitVec.getLsbD_zero
theorem gb_eq0 {a : Int64} : a = 0 ↔ ∀ j, j < 64 → gb a j = false := ⟨fun h j _ => by rw [h]; exact gb_0 j, fun h => gb_ext (fun j hj => by rw [h j hj, gb_0])⟩
theorem gb_ne0 {a : Int64} : ¬ a = 0 ↔ ∃ j, j < 64 ∧ gb a j = true := by
  rw [gb_eq0]
  constructor
  · intro h
    apply Classical.byContradiction
    intro h2
    exact h (fun j hj => Bool.eq_false_iff.mpr (fun z => h2 ⟨j, hj, z⟩))
  · intro ⟨j, hj, z⟩ h
    rw [h j hj] at z
    exact absurd z (by decide)
theorem sh64 : ∀ k, k < 64 → (((nI k).toInt64 &&& 63).toBitVec.smod 64).toNat = k := by decide +kernel
theorem hasL_gb (p : Int64) {k : Nat} (hk : k < 64) : hasL p (nI k) = gb p k := by
  obtain ⟨y, hy⟩ : ∃ y, y = p.toBitVec.sshiftRight k := ⟨_, rfl⟩
  have e : ((p >>> ((nI k).toInt64 &&& 63)) &&& 1).toBitVec = y &&& 1#64 := by
    show p.toBitVec.sshiftRight' (((nI k).toInt64 &&& 63).toBitVec.smod 64) &&& 1#64 = _
    rw [BitVec.sshiftRight_eq', sh64 k hk, hy]
  have h1 : ((p >>> ((nI k).toInt64 &&& 63)) &&& 1 = 1) ↔ y &&& 1#64 = 1#64 := by
    rw [← Int64.toBitVec_inj, e]
    exact Iff.rfl
  have h2 : y.getLsbD 0 = gb p k := by
    rw [hy, BitVec.getLsbD_sshiftRight]
    simp [gb, hk]
  have h3 : (y &&& 1#64).toNat = y.toNat % 2 := by
    rw [BitVec.toNat_and]
    exact Nat.and_one_is_mod _
  have h4 : y.getLsbD 0 = decide (y.toNat % 2 = 1) := Nat.testBit_zero y.toNat
  unfold hasL
  rw [Bool.eq_iff_iff, decide_eq_true_eq, h1, ← h2, h4, decide_eq_true_eq, ← h3]
  constructor
  · intro h
    rw [h]
    rfl
  · intro h
    exact BitVec.eq_of_toNat_eq h
theorem gb_bitL : ∀ i, i < 64 → ∀ j, j < 64 → gb (bitL i) j = decide (i = j) := by decide +kernel
theorem gb_full : ∀ K, K < 34 → ∀ j, j < 64 → gb (bitL K - 1) j = decide (j < K) := by decide +kernel
theorem gb_heldL (p : Int64) (T : Nat → Int64) : ∀ K, K ≤ 64 → ∀ j, j < 64 → gb (heldL p T K) j = (decide (j < K) && decide (T j &&& (p ^^^ -1) = 0))
  | 0, _, j, _ => by rw [heldL, gb_0, decide_eq_false (Nat.not_lt_zero j)]; rfl
  | K + 1, hK, j, hj => by
    have ih := gb_heldL p T K (by omega) j hj
    rw [heldL]
    by_cases h : T K &&& (p ^^^ -1) = 0
    · rw [if_pos h, gb_or, ih, gb_bitL K (by omega) j hj]
      by_cases e : K = j
      · subst e
        rw [decide_eq_true h, decide_eq_true (show K < K + 1 by omega), decide_eq_true (rfl : K = K), Bool.or_true]
        rfl
      · rw [decide_eq_false e, Bool.or_false]
        have e2 : decide (j < K) = decide (j < K + 1) := by
          rw [Bool.eq_iff_iff, decide_eq_true_eq, decide_eq_true_eq]; omega
        rw [e2]
    · rw [if_neg h, ih]
      by_cases e : K = j
      · subst e
        rw [decide_eq_false h, Bool.and_false, Bool.and_false]
      · have e2 : decide (j < K) = decide (j < K + 1) := by
          rw [Bool.eq_iff_iff, decide_eq_true_eq, decide_eq_true_eq]; omega
        rw [e2]
theorem sub_iff {a p : Int64} : a &&& (p ^^^ -1) = 0 ↔ ∀ j, j < 64 → gb a j = true → gb p j = true := by
  rw [gb_eq0]
  constructor
  · intro h j hj ha
    have := h j hj
    rw [gb_and, gb_not _ hj, ha] at this
    cases hp : gb p j
    · rw [hp] at this; exact absurd this (by decide)
    · rfl
  · intro h j hj
    rw [gb_and, gb_not _ hj]
    cases ha : gb a j
    · rfl
    · rw [h j hj ha]; rfl

/-! the trouble with a function; at, points -/
theorem tr_eq {MI : Mi} {S A Gn b K u : Nat} (h : Ic MI S A Gn b K u) (hg : MI 1 0 = 1 → tgE (tgC MI) (tgR MI)) (hp : MI 1 0 = 1 → MI 43 6 = 0 ∨ 0 < MI 43 6) (x : Int32) : funTr MI x = rTr MI x := by
  obtain ⟨h01, ht, -⟩ := h
  have hB : inB x 0 4 = inR x 5 := inB_R (N := 4) (by decide)
  unfold funTr rTr rIF machTr
  rw [hB, ht]
  rcases h01 with z | z
  · have d0 : decide (¬ MI 1 0 = 0) = false := decide_eq_false (fun q => q z)
    rw [d0, if_pos z, Bool.false_and]
    have e0 : ¬ (false = true) := fun q => by cases q
    rw [if_neg e0]
    by_cases hx : inR x 5 = true
    · rw [if_pos hx]
    · rw [if_neg hx]
  · have z1 : ¬ MI 1 0 = 0 := by rw [z]; decide
    have d0 : decide (¬ MI 1 0 = 0) = true := decide_eq_true z1
    rw [d0, if_neg z1, Bool.true_and]
    obtain ⟨-, -, -, t4⟩ := hg z
    have e6 : MI 43 6 = MI 124 27 := congrArg Prod.fst t4
    by_cases hx : inR x 5 = true
    · rw [if_pos hx, if_pos hx]
      by_cases h6 : MI 43 6 = 0
      · have n6 : ¬ (0 : Int32) < MI 124 27 := by rw [← e6, h6]; decide
        rw [if_pos h6, if_neg n6]
      · have p6 : (0 : Int32) < MI 124 27 := by rw [← e6]; exact (hp z).resolve_left h6
        rw [if_neg h6, if_pos p6]
    · rw [if_neg hx, if_neg hx]
theorem funTr_0 {MI : Mi} {x : Int32} (h : funTr MI x = 0) : (¬ MI 1 0 = 0) ∧ MI 43 6 = 0 ∧ ∃ f, f < 5 ∧ x = nI f := by
  unfold funTr machTr at h
  by_cases hx : inR x 5 = true
  · rw [if_pos hx] at h
    by_cases h0 : MI 1 0 = 0
    · rw [if_pos h0] at h
      exact absurd h (by decide)
    · rw [if_neg h0] at h
      by_cases h6 : MI 43 6 = 0
      · exact ⟨h0, h6, inR_ex (N := 5) (by decide) (inR_t.mp hx).1 (inR_t.mp hx).2⟩
      · rw [if_neg h6] at h
        exact absurd h (by decide)
  · rw [if_neg hx] at h
    exact absurd h (by decide)
/-- the demands agree, and none is both -/
def Dg (ML : Nat → Nat → Int64) : Prop := ∀ k, k < 5 → ML 49 k = ML 138 k ∧ ML 50 k = ML 137 k ∧ ML 49 k &&& ML 50 k = 0
theorem at_eq {MI : Mi} {ML : Nat → Nat → Int64} (hT : ∀ x, funTr MI x = rTr MI x) (hD : (¬ MI 1 0 = 0) → MI 43 6 = 0 → Dg ML) (x y : Int32) : atAns MI ML x y = rtAns MI ML x y := by
  have hB : inB y 0 63 = inR y 64 := inB_R (N := 63) (by decide)
  unfold atAns rtAns
  rw [hB, hT x]
  by_cases h : rTr MI x = 0
  · rw [if_pos h, if_pos h]
    have h' := h
    rw [← hT x] at h'
    obtain ⟨h0, h6, f, hf, rfl⟩ := funTr_0 h'
    obtain ⟨e1, e2, e3⟩ := hD h0 h6 f hf
    by_cases hy : inR y 64 = true
    · obtain ⟨j, hj, rfl⟩ := inR_ex (N := 64) (by decide) (inR_t.mp hy).1 (inR_t.mp hy).2
      rw [if_pos hy, if_pos hy, nI_clamp (by omega), ← e1, ← e2, bitA_gb hj, bitA_gb hj, hasL_gb _ hj, hasL_gb _ hj]
      have hn := gb_eq0.mp e3 j hj
      rw [gb_and] at hn
      cases hz : gb (ML 49 f) j <;> cases ho : gb (ML 50 f) j <;> first | rfl | (rw [hz, ho] at hn; cases hn)
    · rw [if_neg hy, if_neg hy]
  · rw [if_neg h, if_neg h]
theorem po_eq {MI : Mi} {ML : Nat → Nat → Int64} (hT : ∀ x, funTr MI x = rTr MI x) (hD : (¬ MI 1 0 = 0) → MI 43 6 = 0 → Dg ML) (x y : Int32) : poAns MI ML x y = rpAns MI ML x y := by
  have hB : inB y 0 2 = inR y 3 := inB_R (N := 2) (by decide)
  unfold poAns rpAns
  rw [hB, hT x]
  by_cases h : rTr MI x = 0
  · rw [if_pos h, if_pos h]
    have h' := h
    rw [← hT x] at h'
    obtain ⟨h0, h6, f, hf, rfl⟩ := funTr_0 h'
    obtain ⟨e1, e2, e3⟩ := hD h0 h6 f hf
    by_cases hy : inR y 3 = true
    · obtain ⟨j, hj, rfl⟩ := inR_ex (N := 3) (by decide) (inR_t.mp hy).1 (inR_t.mp hy).2
      rw [if_pos hy, if_pos hy, nI_clamp (by omega), ← e1, ← e2, mn_pop, mn_pop, ← pop_dis e3]
      rcases (show j = 0 ∨ j = 1 ∨ j = 2 by omega) with rfl | rfl | rfl
      · rfl
      · rfl
      · show ((64 : Int32) - popF (ML 49 f) - popF (ML 50 f), (0 : Int32)) = (64 - (popF (ML 49 f) + popF (ML 50 f)), 0)
        congr 1
        grind
    · rw [if_neg hy, if_neg hy]
  · rw [if_neg h, if_neg h]

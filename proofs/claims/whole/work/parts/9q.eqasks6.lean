/-! run, runBurst with gates -/
theorem r1_eq {MI : Mi} {ML : Nat → Nat → Int64} {Gn : Nat} (hT : ∀ x, funTr MI x = rTr MI x) (t1 : tabOK (ML 58)) (hq : ∀ g, g < Gn → MI 12 g = MI 128 (56 + 2 * g) ∧ MI 13 g = nI (gcN MI g) ∧ gcN MI g < 729) (x y : Int32) : r1Ans MI ML Gn x y = rrG MI x y Gn := by
  have hB : inB y 0 728 = inR y 729 := inB_R (N := 728) (by decide)
  unfold r1Ans rrG
  rw [hB, hT x]
  by_cases h : rTr MI x = 0
  · rw [if_pos h, if_pos h]
    by_cases hy : inR y 729 = true
    · obtain ⟨d, hd, rfl⟩ := inR_ex (N := 729) (by decide) (inR_t.mp hy).1 (inR_t.mp hy).2
      rw [if_pos hy, if_pos hy, nI_clamp (by omega), ptsV_nI hd, (rg_eq t1 hd Gn hq).1]
    · rw [if_neg hy, if_neg hy]
  · rw [if_neg h, if_neg h]
theorem b1_eq {MI : Mi} {ML : Nat → Nat → Int64} {S A Gn b K u : Nat} (h : Ic MI S A Gn b K u) (hT : ∀ x, funTr MI x = rTr MI x) (t1 : tabOK (ML 58)) (hq : ∀ g, g < Gn → MI 12 g = MI 128 (56 + 2 * g) ∧ MI 13 g = nI (gcN MI g) ∧ gcN MI g < 729) (hb : (¬ MI 1 0 = 0) → MI 43 6 = 0 → ∀ i, i < A → ∃ d, d < 729 ∧ MI 51 i = nI d ∧ bcR MI i = nI d) (x y : Int32) : b1Ans MI ML Gn x y = rbG MI x y Gn := by
  obtain ⟨h01, ht, ⟨-, hA, -⟩, -, ⟨s1, s2⟩, -, -, -, -, h0⟩ := h
  have hB : inB x 0 4 = inR x 5 := inB_R (N := 4) (by decide)
  unfold b1Ans rbG rIF rIA
  rw [hB, s1, s2, ht, hT x]
  rcases h01 with z | z
  · obtain ⟨-, rfl, -⟩ := h0 z
    have d0 : decide (¬ MI 1 0 = 0) = false := decide_eq_false (fun q => q z)
    rw [if_neg (fun q => inR_0 q.2), d0, Bool.false_and]
    rw [if_neg (fun q => by cases q.1)]
  · have z1 : ¬ MI 1 0 = 0 := by rw [z]; decide
    have d0 : decide (¬ MI 1 0 = 0) = true := decide_eq_true z1
    rw [d0, Bool.true_and, Bool.true_and]
    by_cases hc : inR x 5 = true ∧ inR y (nI A) = true
    · rw [if_pos hc, if_pos hc]
      obtain ⟨i, hi, rfl⟩ := inR_ex (N := A) (by omega) (inR_t.mp hc.2).1 (inR_t.mp hc.2).2
      rw [nI_clamp (show i < 2 ^ 31 by omega)]
      by_cases hr : rTr MI x = 0
      · rw [if_pos hr, if_pos hr]
        rw [← hT x] at hr
        obtain ⟨-, h6, -⟩ := funTr_0 hr
        obtain ⟨d, hd, e1, e2⟩ := hb z1 h6 i hi
        rw [e1, e2, nI_clamp (by omega), ptsV_nI hd, (rg_eq t1 hd Gn hq).1]
      · rw [if_neg hr, if_neg hr]
    · rw [if_neg hc, if_neg hc]

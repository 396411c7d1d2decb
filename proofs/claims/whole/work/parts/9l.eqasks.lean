/-! calls that only ask: their answers agree. Ic: the counts agree -/
def Ic (MI : Mi) (S A Gn b K u : Nat) : Prop := (MI 1 0 = 0 ∨ MI 1 0 = 1) ∧ MI 124 20 = MI 1 0 ∧ (S ≤ 6 ∧ A ≤ 8 ∧ Gn ≤ 16 ∧ K ≤ 12 ∧ u ≤ 600) ∧ (MI 1 1 = nI S ∧ MI 130 0 = nI S) ∧ (MI 1 6 = nI A ∧ MI 128 6 = nI A) ∧ (MI 1 8 = nI Gn ∧ MI 128 55 = nI Gn) ∧ (MI 1 3 = nI b ∧ MI 130 1 = nI b) ∧ (MI 29 2 = nI K ∧ MI 124 19 = nI K) ∧ (MI 14 1 = nI u ∧ MI 124 6 = nI u) ∧ (MI 1 0 = 0 → S = 0 ∧ A = 0 ∧ Gn = 0 ∧ b = 0 ∧ K = 0)
theorem inB_R {N : Nat} (hN : N + 1 < 2 ^ 31) {y : Int32} : inB y 0 (nI N) = inR y (nI (N + 1)) := by
  have h := inRN hN (y := y)
  unfold inB
  cases hc : inR y (nI (N + 1)) with
  | true =>
    have h2 := h.mp hc
    exact decide_eq_true ⟨h2.1, Int32.not_lt.mpr h2.2⟩
  | false =>
    refine decide_eq_false (fun z => ?_)
    have h2 := h.mpr ⟨z.1, Int32.not_lt.mp z.2⟩
    rw [h2] at hc
    cases hc
theorem inR_0 {x : Int32} : ¬ inR x (nI 0) = true := fun z => by
  have h := inR_t.mp z
  exact h.2 (Int32.not_lt.mp h.1)
theorem sz_eq {MI : Mi} {S A Gn b K u : Nat} (h : Ic MI S A Gn b K u) (x : Int32) : szAns MI x = rzAns MI x := by
  obtain ⟨h01, ht, -, ⟨s1, s2⟩, ⟨a1, a2⟩, ⟨g1, g2⟩, ⟨b1, b2⟩, ⟨k1, k2⟩, ⟨u1, u2⟩, h0⟩ := h
  have hB : inB x 0 5 = inR x 6 := inB_R (N := 5) (by decide)
  unfold szAns rzAns
  rw [hB, s1, s2, a1, a2, g1, g2, b1, b2, k1, k2, u1, u2, ht]
  by_cases hx : inR x 6 = true
  · obtain ⟨k, hk, rfl⟩ := inR6_ex hx
    rw [if_pos hx]
    rcases h01 with z | z
    · obtain ⟨rfl, rfl, rfl, rfl, rfl⟩ := h0 z
      rw [if_pos z]
      rcases (show k = 0 ∨ k = 1 ∨ k = 2 ∨ k = 3 ∨ k = 4 ∨ k = 5 by omega) with rfl | rfl | rfl | rfl | rfl | rfl <;> rfl
    · have z1 : ¬ MI 1 0 = 0 := by rw [z]; decide
      rw [if_neg z1]
      rcases (show k = 0 ∨ k = 1 ∨ k = 2 ∨ k = 3 ∨ k = 4 ∨ k = 5 by omega) with rfl | rfl | rfl | rfl | rfl | rfl <;> rfl
  · have hn : ∀ k, k < 6 → ¬ x = nI k := fun k hk z => hx (by rw [z]; exact inR6 hk)
    have n0 : ¬ x = 0 := hn 0 (by decide)
    have n1 : ¬ x = 1 := hn 1 (by decide)
    have n2 : ¬ x = 2 := hn 2 (by decide)
    have n3 : ¬ x = 3 := hn 3 (by decide)
    have n4 : ¬ x = 4 := hn 4 (by decide)
    have n5 : ¬ x = 5 := hn 5 (by decide)
    rw [if_neg n0, if_neg n1, if_neg n2, if_neg n3, if_neg n4, if_neg n5, if_neg hx]
    rw [if_neg n4]
theorem st_eq {MI : Mi} {S A Gn b K u : Nat} (h : Ic MI S A Gn b K u) (hC : rE S (MI 2) (MI 128)) (hg : MI 1 0 = 1 → tgE (tgC MI) (tgR MI)) (x y : Int32) : stAns MI x y = rsAns MI x y := by
  obtain ⟨h01, ht, ⟨hS, -⟩, ⟨s1, s2⟩, -, -, -, -, -, h0⟩ := h
  have hB : inB y 0 2 = inR y 3 := inB_R (N := 2) (by decide)
  unfold stAns rsAns rIS
  rw [hB, s1, s2, ht]
  rcases h01 with z | z
  · obtain ⟨rfl, -⟩ := h0 z
    rw [if_neg (fun q => inR_0 q.1), if_neg (fun q => ?_)]
    rw [z] at q
    exact absurd q.1 (by simp)
  · have z1 : ¬ MI 1 0 = 0 := by rw [z]; decide
    have e : (decide (¬ MI 1 0 = 0) && inR x (nI S)) = inR x (nI S) := by rw [decide_eq_true z1]; rfl
    rw [e]
    by_cases hc : inR x (nI S) = true ∧ inR y 3 = true
    · rw [if_pos hc, if_pos hc]
      obtain ⟨s, hs, rfl⟩ := inR_ex (N := S) (by omega) (inR_t.mp hc.1).1 (inR_t.mp hc.1).2
      have h6 : s < 6 := by omega
      rw [nI_clamp (by omega), pickV_nI _ h6 (by decide), pickV_nI _ h6 (by decide), hC s hs]
      obtain ⟨t1, t2, -, -⟩ := hg z
      have e1 : MI 46 s = MI 133 s := t1 s h6
      by_cases hy : y = 0
      · rw [if_pos hy, if_pos hy]
      · rw [if_neg hy, if_neg hy]
        by_cases hv : MI 46 s = 0
        · have hw : MI 133 s = 0 := by rw [← e1]; exact hv
          rw [if_neg (fun q => q.2 hv), if_pos hw]
        · have hw : ¬ MI 133 s = 0 := by rw [← e1]; exact hv
          have e2 : MI 44 s = MI 135 s ∧ MI 45 s = MI 136 s := t2 s h6 hv
          rw [if_pos ⟨inR6 h6, hv⟩, if_neg hw]
          by_cases hy1 : y = 1
          · rw [if_pos hy1, if_pos hy1, e2.1]
          · rw [if_neg hy1, if_neg hy1, e2.2]
    · rw [if_neg hc, if_neg hc]

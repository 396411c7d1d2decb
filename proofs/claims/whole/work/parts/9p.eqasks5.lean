/-! harm is no negative number -/
theorem or8 {k m : Nat} (hk : k < 8) (hm : m < 8) : ∃ q, q < 8 ∧ nI k ||| nI m = nI q := ⟨k ||| m, Nat.or_lt_two_pow (n := 3) hk hm, nI_or k m⟩
theorem hmG_in (V : Mi) (B : Nat → Nat → Int64) (f i : Nat) : ∀ j, ∃ k, k < 8 ∧ hmG V B f i j = nI k := by
  intro j
  induction j with
  | zero => exact ⟨0, by decide, rfl⟩
  | succ j ih =>
    obtain ⟨k, hk, he⟩ := ih
    unfold hmG
    by_cases hc : V 128 (56 + 2 * j) = nI f
    · rw [if_pos hc, he]
      obtain ⟨k1, hk1, e1⟩ : ∃ k1, k1 < 8 ∧ hg1 V B f i j (nI k) = nI k1 := by
        unfold hg1
        by_cases h1 : B 125 (gcN V j) &&& hzR V B f i = 0
        · rw [if_pos h1]; exact ⟨k, hk, rfl⟩
        · rw [if_neg h1]; exact or8 hk (m := 1) (by decide)
      rw [e1]
      unfold hg2
      by_cases h2 : flR V (nI f) i = true ∧ ctR V B (gcN V j) i = true
      · rw [if_pos h2]; exact or8 hk1 (m := 4) (by decide)
      · rw [if_neg h2]; exact ⟨k1, hk1, rfl⟩
    · rw [if_neg hc]
      exact ⟨k, hk, he⟩
theorem hmN_in (V : Mi) (B : Nat → Nat → Int64) (f g : Nat) (L : List Int32) {h : Int32} (hh : ∃ k, k < 8 ∧ h = nI k) : ∀ j, ∃ k, k < 8 ∧ hmN V B f g L h j = nI k := by
  intro j
  induction j with
  | zero => exact hh
  | succ j ih =>
    obtain ⟨k, hk, he⟩ := ih
    unfold hmN
    by_cases hc : (List.range g).any (lgP V B (nI f) (L.getD j 0).toNatClampNeg) = true
    · rw [if_pos hc]; exact ⟨k, hk, he⟩
    · rw [if_neg hc, he]; exact or8 hk (m := 2) (by decide)
theorem hmR_p (V : Mi) (B : Nat → Nat → Int64) (f g i : Nat) : hmR V B f g i = 0 ∨ 0 < hmR V B f g i := by
  unfold hmR
  obtain ⟨k, hk, he⟩ := hmN_in V B f g (addAll [] (nqA V (nI f) i)) (hmG_in V B f i g) (addAll [] (nqA V (nI f) i)).length
  rw [he]
  have h8 : ∀ k, k < 8 → nI k = 0 ∨ (0 : Int32) < nI k := by decide
  exact h8 k hk

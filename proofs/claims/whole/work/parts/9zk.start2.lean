/-! the invariant holds at the start -/
theorem start_Inv : InvE mi0 ml0 mr0 := by
  have z : ∀ b j, b ≠ 126 → b ≠ 43 → ¬ (b = 124 ∧ j = 2) → b < 89 ∨ 123 < b → mi0 b j = 0 := fun b j h1 h2 h3 h4 => start_mi h1 h3 (fun q => h2 q.1) (by omega)
  refine ⟨fun j => j, 0, 0, 0, 0, 0, 0, 0, 0, 0, ⟨start_Lay, start_Rw⟩, ⟨⟨start_tab.1, start_tab.2, start_mu⟩, ⟨by decide, ?_, ?_, ?_, fun j => ?_⟩, start_Ic, ⟨⟨by decide, by decide⟩, ⟨?_, ?_⟩, ?_, ?_⟩, ⟨⟨by decide, by decide, fun s hs => absurd hs (Nat.not_lt_zero s), fun i hi => absurd hi (Nat.not_lt_zero i), fun g hg => absurd hg (Nat.not_lt_zero g)⟩, ⟨?_, ?_, fun s hs => absurd hs (Nat.not_lt_zero s), fun i hi => absurd hi (Nat.not_lt_zero i), fun g hg => absurd hg (Nat.not_lt_zero g)⟩⟩, trivial, fun q => ?_, ⟨by decide, fun q => ?_, ⟨?_, ?_⟩, ?_, 0, by decide, ?_⟩⟩, start_Iw, fun f hf => ⟨start_fn f hf, Or.inl ?_⟩, ⟨fun f hf => Or.inl ?_, fun f hf => Or.inl ?_⟩, Ig_0 ?_⟩
  · exact z 14 1 (by decide) (by decide) (by omega) (by omega)
  · exact z 124 6 (by decide) (by decide) (by omega) (by omega)
  · funext j
    rw [z 15 j (by decide) (by decide) (by omega) (by omega), z 127 j (by decide) (by decide) (by omega) (by omega)]
  · rw [z 15 j (by decide) (by decide) (by omega) (by omega)]
    exact ⟨0, by decide, rfl⟩
  · exact z 1 4 (by decide) (by decide) (by omega) (by omega)
  · exact z 130 2 (by decide) (by decide) (by omega) (by omega)
  · exact z 1 5 (by decide) (by decide) (by omega) (by omega)
  · exact z 130 3 (by decide) (by decide) (by omega) (by omega)
  · exact z 128 6 (by decide) (by decide) (by omega) (by omega)
  · exact z 128 55 (by decide) (by decide) (by omega) (by omega)
  · rw [z 1 0 (by decide) (by decide) (by omega) (by omega)] at q
    exact absurd q (by decide)
  · rw [z 1 0 (by decide) (by decide) (by omega) (by omega)] at q
    exact absurd q (by decide)
  · exact z 85 1 (by decide) (by decide) (by omega) (by omega)
  · exact z 124 46 (by decide) (by decide) (by omega) (by omega)
  · rw [z 85 2 (by decide) (by decide) (by omega) (by omega), z 124 47 (by decide) (by decide) (by omega) (by omega)]
  · exact z 85 2 (by decide) (by decide) (by omega) (by omega)
  · exact start_mi (by omega) (by omega) (by omega) (by omega)
  · exact z 140 f (by decide) (by decide) (by omega) (by omega)
  · exact z 141 f (by decide) (by decide) (by omega) (by omega)
  · exact z 60 5 (by decide) (by decide) (by omega) (by omega)

/-! a call that only asks: the memory behind both -/
def anM (MI : Mi) (w : Int32) : Mi := rfM (th (ansM MI w)) w
theorem an_o {MI : Mi} {w : Int32} {q j : Nat} (h1 : ¬ (q = 0 ∧ j = 8)) (h2 : ¬ (q = 124 ∧ j ≤ 2)) : anM MI w q j = MI q j := by
  show u2 (u2 (u2 (u2 MI 0 8 w) 124 0 0) 124 1 w) 124 2 (-1) q j = _
  rw [u2_ne _ _ (by omega), u2_ne _ _ (by omega), u2_ne _ _ (by omega), u2_ne _ _ h1]
theorem an_row {MI : Mi} {w : Int32} {q : Nat} (h1 : q ≠ 0) (h2 : q ≠ 124) : anM MI w q = MI q := funext fun j => an_o (by omega) (by omega)
/-- why, where, fault agree -/
def Iw (MI : Mi) : Prop := MI 0 8 = MI 124 1 ∧ (if MI 0 8 = 4 then MI 14 4 else -1) = MI 124 2 ∧ MI 0 9 = MI 124 12
theorem Iw_an {MI : Mi} {w : Int32} (h : Iw MI) (hw : ¬ w = 4) : Iw (anM MI w) := by
  have e1 : anM MI w 0 8 = w := by
    show u2 (u2 (u2 (u2 MI 0 8 w) 124 0 0) 124 1 w) 124 2 (-1) 0 8 = _
    rw [u2_ne _ _ (by omega), u2_ne _ _ (by omega), u2_ne _ _ (by omega), u2_eq]
  have e2 : anM MI w 124 1 = w := by
    show u2 (u2 (u2 (u2 MI 0 8 w) 124 0 0) 124 1 w) 124 2 (-1) 124 1 = _
    rw [u2_ne _ _ (by omega), u2_eq]
  have e3 : anM MI w 124 2 = -1 := by
    show u2 (u2 (u2 (u2 MI 0 8 w) 124 0 0) 124 1 w) 124 2 (-1) 124 2 = _
    rw [u2_eq]
  refine ⟨by rw [e1, e2], ?_, ?_⟩
  · rw [e1, e3, if_neg hw]
  · rw [an_o (by omega) (by omega), an_o (by omega) (by omega)]
    exact h.2.2
theorem Ic_cg {MI W : Mi} {S A Gn b K u : Nat} (h : Ic MI S A Gn b K u) (h1 : W 1 = MI 1) (h2 : W 124 20 = MI 124 20) (h3 : W 130 = MI 130) (h4 : W 128 = MI 128) (h5 : W 29 2 = MI 29 2) (h6 : W 124 19 = MI 124 19) (h7 : W 14 1 = MI 14 1) (h8 : W 124 6 = MI 124 6) : Ic W S A Gn b K u := by
  unfold Ic
  rw [h1, h2, h3, h4, h5, h6, h7, h8]
  exact h
theorem Ic_an {MI : Mi} {w : Int32} {S A Gn b K u : Nat} (h : Ic MI S A Gn b K u) : Ic (anM MI w) S A Gn b K u :=
  Ic_cg h (an_row (by decide) (by decide)) (an_o (by omega) (by omega)) (an_row (by decide) (by decide)) (an_row (by decide) (by decide)) (an_o (by omega) (by omega)) (an_o (by omega) (by omega)) (an_o (by omega) (by omega)) (an_o (by omega) (by omega))
theorem It_an {MI : Mi} {w : Int32} {u : Nat} (h : It MI u) : It (anM MI w) u := by
  unfold It
  rw [an_row (q := 15) (by decide) (by decide), an_row (q := 127) (by decide) (by decide), an_o (by omega) (by omega), an_o (by omega) (by omega)]
  exact h
theorem start_Iw : Iw mi0 := by
  unfold Iw
  rw [start_mi (b := 0) (by omega) (by omega) (by omega) (by omega), start_mi (b := 124) (j := 1) (by omega) (by omega) (by omega) (by omega), start_43.2]
  refine ⟨rfl, rfl, ?_⟩
  rw [start_mi (by omega) (by omega) (by omega) (by omega), start_mi (by omega) (by omega) (by omega) (by omega)]
theorem start_Ic : Ic mi0 0 0 0 0 0 0 := by
  have z : ∀ b j, b ≠ 126 → b ≠ 43 → ¬ (b = 124 ∧ j = 2) → b < 89 ∨ 117 < b → mi0 b j = 0 := fun b j h1 h2 h3 h4 => start_mi h1 h3 (fun q => h2 q.1) (by omega)
  refine ⟨Or.inl (z 1 0 (by decide) (by decide) (by omega) (by omega)), ?_, ⟨by decide, by decide, by decide, by decide, by decide⟩, ⟨?_, ?_⟩, ⟨?_, ?_⟩, ⟨?_, ?_⟩, ⟨?_, ?_⟩, ⟨?_, ?_⟩, ⟨?_, ?_⟩, fun _ => ⟨rfl, rfl, rfl, rfl, rfl⟩⟩
  · rw [z 124 20 (by decide) (by decide) (by omega) (by omega), z 1 0 (by decide) (by decide) (by omega) (by omega)]
  all_goals (exact z _ _ (by decide) (by decide) (by omega) (by omega))

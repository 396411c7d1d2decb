/-! the world at the law's entry: classes, arrays -/
theorem env_cl {s : State} {args : Array Value} (hT : ∀ w ∈ x_T, w.before args s = true) : ∀ (c : Nat) (q : vw_C), vwCl[c]? = some q → ∃ (cC : ClassId) (iS : Nat → Nat), u_Kn s q.1 q.2.1 q.2.2 cC iS := by
  intro c q hq
  have hl : vwCl.length = 12 := rfl
  have hc : c < 12 := by
    have := (List.getElem?_eq_some_iff.mp hq).1
    rw [hl] at this
    exact this
  rcases (show c = 0 ∨ c = 1 ∨ c = 2 ∨ c = 3 ∨ c = 4 ∨ c = 5 ∨ c = 6 ∨ c = 7 ∨ c = 8 ∨ c = 9 ∨ c = 10 ∨ c = 11 by omega) with rfl | rfl | rfl | rfl | rfl | rfl | rfl | rfl | rfl | rfl | rfl | rfl
  · cases hq; exact u_known hT in_X0 (hT _ ni_X0)
  · cases hq; exact u_known hT in_X1 (hT _ ni_X1)
  · cases hq; exact u_known hT in_X2 (hT _ ni_X2)
  · cases hq; exact u_known hT in_X3 (hT _ ni_X3)
  · cases hq; exact u_known hT in_X4 (hT _ ni_X4)
  · cases hq; exact u_known hT in_X5 (hT _ ni_X5)
  · cases hq; exact u_known hT in_X6 (hT _ ni_X6)
  · cases hq; exact u_known hT in_X7 (hT _ ni_X7)
  · cases hq; exact u_known hT in_X8 (hT _ ni_X8)
  · cases hq; exact u_known hT in_X9 (hT _ ni_X9)
  · cases hq; exact u_known hT in_X10 (hT _ ni_X10)
  · cases hq; exact u_known hT in_X11 (hT _ ni_X11)
theorem env_K {s : State} {args : Array Value} (hts : ∀ w ∈ lw_tbl, w.before args s = true) : ∃ (D : va_G) (K : Nat → ClassId), ∀ (l : Launch) (ad : Nat → Nat), va_K D vwCl (x_tys (l, D, K, s, ad)) s ∧ x_AA (l, D, K, s, ad) ∧ x_OV (l, D, K, s, ad) := by
  have hT : ∀ w ∈ x_T, w.before args s = true := fun w h => hts w (List.mem_filter.mp h).1
  have h0 : ∀ c : Nat, ∃ p : ClassId × (Nat → Nat), ∀ q : vw_C, vwCl[c]? = some q → u_Kn s q.1 q.2.1 q.2.2 p.1 p.2 := by
    intro c
    cases hq : vwCl[c]? with
    | none => exact ⟨((0 : Nat), fun _ => 0), fun q h => by cases h⟩
    | some q =>
      obtain ⟨cC, iS, h⟩ := env_cl hT c q hq
      exact ⟨(cC, iS), fun q' h' => by cases h'; exact h⟩
  obtain ⟨c12, k12, p12, a1, a2, a3⟩ := Cond.arrayClass_spec (hT _ na_byte)
  obtain ⟨c13, k13, p13, b1, b2, b3⟩ := Cond.arrayClass_spec (hT _ na_int)
  obtain ⟨c14, k14, p14, d1, d2, d3⟩ := Cond.arrayClass_spec (hT _ na_long)
  obtain ⟨c15, k15, p15, e1, e2, e3⟩ := Cond.arrayClass_spec (hT _ na_boolean)
  obtain ⟨p16, c16, k16, f1, -, f3, f4, f5⟩ := Cond.arrayOver_spec (hts _ no_Demands)
  obtain ⟨p17, c17, k17, g1, -, g3, g4, g5⟩ := Cond.arrayOver_spec (hts _ no_Sheet)
  obtain ⟨p18, c18, k18, i1, -, i3, i4, i5⟩ := arrayOverA_spec (hts _ no_I)
  have h13 : p18 = c13 := Option.some.inj (i1.symm.trans b1)
  subst h13
  refine ⟨(fun c => (Classical.choose (h0 c)).1, fun c => (Classical.choose (h0 c)).2), fun n => if n = 12 then c12 else if n = 13 then p18 else if n = 14 then c14 else if n = 15 then c15 else if n = 16 then c16 else if n = 17 then c17 else c18, fun l ad => ⟨⟨fun c q hq => Classical.choose_spec (h0 c) q hq, fun k q hk => ?_⟩, ⟨⟨k18, i3, i4⟩, k13, b2⟩, ⟨va_AO.of (hts _ no_Demands), va_AO.of (hts _ no_Sheet), hts _ no_I⟩⟩⟩
  have hk7 : k < 7 := (List.getElem?_eq_some_iff.mp hk).1
  rcases (show k = 0 ∨ k = 1 ∨ k = 2 ∨ k = 3 ∨ k = 4 ∨ k = 5 ∨ k = 6 by omega) with rfl | rfl | rfl | rfl | rfl | rfl | rfl
  · cases hk
    exact ⟨fun n z => ⟨(fun k h => by cases h), k12, a2, p12, a3⟩, a1⟩
  · cases hk
    exact ⟨fun n z => ⟨(fun k h => by cases h), k13, b2, p13, b3⟩, b1⟩
  · cases hk
    exact ⟨fun n z => ⟨(fun k h => by cases h), k14, d2, p14, d3⟩, d1⟩
  · cases hk
    exact ⟨fun n z => ⟨(fun k h => by cases h), k15, e2, p15, e3⟩, e1⟩
  · cases hk
    exact ⟨fun n z => ⟨(fun k h => by cases h), k16, f3, p16, f4⟩, k16, p16, f3, f4, f1, f5⟩
  · cases hk
    exact ⟨fun n z => ⟨(fun k h => by cases h), k17, g3, p17, g4⟩, k17, p17, g3, g4, g1, g5⟩
  · cases hk
    exact ⟨fun n z => ⟨(fun k h => by cases h), k18, i3, p18, i4⟩, i5⟩

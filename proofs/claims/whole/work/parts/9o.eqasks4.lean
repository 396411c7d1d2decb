/-! harm, glitch -/
theorem hr_eq {MI : Mi} {ML : Nat → Nat → Int64} {S A Gn b K u : Nat} (h : Ic MI S A Gn b K u) (hT : ∀ x, funTr MI x = rTr MI x) (hH : MI 1 0 = 1 → MI 43 6 = 0 → ∀ f, f < 5 → ∀ i, i < A → hmV MI ML Gn f i = hmR MI ML f Gn i) (x y : Int32) : hrAns MI ML Gn x y = rhA MI ML Gn x y := by
  obtain ⟨h01, ht, ⟨-, hA, -⟩, -, ⟨s1, s2⟩, -, -, -, -, h0⟩ := h
  have hB : inB x 0 4 = inR x 5 := inB_R (N := 4) (by decide)
  unfold hrAns rhA rIF rIA
  rw [hB, s1, s2, ht, ← hT x]
  rcases h01 with z | z
  · obtain ⟨-, rfl, -⟩ := h0 z
    have d0 : decide (¬ MI 1 0 = 0) = false := decide_eq_false (fun q => q z)
    rw [if_neg (fun q => inR_0 q.2), d0, Bool.false_and]
    rw [if_neg (fun q => by cases q.1)]
  · have z1 : ¬ MI 1 0 = 0 := by rw [z]; decide
    have d0 : decide (¬ MI 1 0 = 0) = true := decide_eq_true z1
    rw [d0, Bool.true_and, Bool.true_and]
    by_cases hc : inR x 5 = true ∧ inR y (nI A) = true
    · rw [if_pos hc, if_pos hc]
      obtain ⟨f, hf, rfl⟩ := inR_ex (N := 5) (by decide) (inR_t.mp hc.1).1 (inR_t.mp hc.1).2
      obtain ⟨i, hi, rfl⟩ := inR_ex (N := A) (by omega) (inR_t.mp hc.2).1 (inR_t.mp hc.2).2
      rw [nI_clamp (show f < 2 ^ 31 by omega), nI_clamp (show i < 2 ^ 31 by omega)]
      unfold funTr machTr
      rw [if_pos hc.1, if_neg z1]
      by_cases h6 : MI 43 6 = 0
      · rw [if_pos h6, if_pos h6, if_pos rfl, hH z h6 f hf i hi]
      · have n5 : ¬ ((5 : Int32) = 0) := by decide
        rw [if_neg h6, if_neg h6, if_neg n5]
    · rw [if_neg hc, if_neg hc]
theorem findA_cg {A : Nat} {p q : Nat → Bool} (h : ∀ i, i < A → p i = q i) : (List.range A).find? p = (List.range A).find? q := by
  have key : ∀ l : List Nat, (∀ i ∈ l, p i = q i) → l.find? p = l.find? q := by
    intro l
    induction l with
    | nil => exact fun _ => rfl
    | cons a l ih =>
      intro hl
      rw [List.find?_cons, List.find?_cons, hl a List.mem_cons_self, ih (fun i hi => hl i (List.mem_cons_of_mem _ hi))]
  exact key _ (fun i hi => h i (List.mem_range.mp hi))
theorem gl_eq {MI : Mi} {ML : Nat → Nat → Int64} {A Gn : Nat} (hT : ∀ x, funTr MI x = rTr MI x) (hH : (¬ MI 1 0 = 0) → MI 43 6 = 0 → ∀ f, f < 5 → ∀ i, i < A → hmV MI ML Gn f i = hmR MI ML f Gn i) (hp : ∀ f i, hmR MI ML f Gn i = 0 ∨ 0 < hmR MI ML f Gn i) (x : Int32) : (rTr MI x = 0 → glAns MI ML Gn A x = (glR MI ML x.toNatClampNeg Gn A, 0)) ∧ (¬ rTr MI x = 0 → glAns MI ML Gn A x = (-1, rTr MI x)) := by
  constructor
  · intro h
    have h' := h
    rw [← hT x] at h'
    obtain ⟨h0, h6, f, hf, rfl⟩ := funTr_0 h'
    unfold glAns glR glO
    rw [if_pos h', nI_clamp (show f < 2 ^ 31 by omega)]
    rw [findA_cg (p := fun i => decide (¬ hmV MI ML Gn f i = 0)) (q := fun i => decide (0 < hmR MI ML f Gn i)) (fun i hi => ?_)]
    rw [hH h0 h6 f hf i hi]
    rcases hp f i with z | z
    · rw [z]
      decide
    · have nz : ¬ hmR MI ML f Gn i = 0 := fun q => by
        rw [q] at z
        exact absurd z (by decide)
      rw [decide_eq_true nz, decide_eq_true z]
  · intro h
    unfold glAns
    rw [hT x, if_neg h]

/-! last: the class counts down, the reference counts up -/
theorem lst_eq {Lc Lr : Nat → Bool} {x : Int32} (h : ∀ s, Lr s = !(Lc s)) : ∀ k s m left, left = x - nI m → lstC Lc k s left = lstR Lr x k s m := by
  intro k
  induction k with
  | zero => exact fun _ _ _ _ => rfl
  | succ k ih =>
    intro s m left hl
    have hm1 : nI (m + 1) = nI m + 1 := (nI_1 m).symm
    unfold lstC lstR
    rw [h s]
    cases hc : Lc s with
    | true => exact ih (s + 1) m left hl
    | false =>
      have e1 : ¬ (false = true) := fun z => by cases z
      rw [if_neg e1, if_pos (show (!false) = true from rfl)]
      by_cases hz : left = 0
      · have hx : nI m = x := by grind
        rw [if_pos hz, if_pos hx]
      · have hx : ¬ nI m = x := fun z => hz (by grind)
        rw [if_neg hz, if_neg hx]
        refine ih (s + 1) (m + 1) _ ?_
        rw [hl, nI_d1, hm1]
        grind
theorem leaves_isl {MI : Nat → Nat → Int32} {A s : Nat} (h : ∀ i, i < A → partV MI 1 (nI i) 0 = arR MI i 0) : isl (arR MI) A s = !(leavesV MI 1 A (nI s)) := by
  cases hc : leavesV MI 1 A (nI s) with
  | true =>
    obtain ⟨i, hi, he⟩ := leavesV_t.mp hc
    show isl (arR MI) A s = false
    cases hq : isl (arR MI) A s with
    | false => rfl
    | true =>
      unfold isl at hq
      have := List.all_eq_true.mp hq i (List.mem_range.mpr hi)
      rw [← h i hi] at this
      exact absurd he (of_decide_eq_true this)
  | false =>
    show isl (arR MI) A s = true
    unfold isl
    rw [List.all_eq_true]
    intro i hi
    refine decide_eq_true (fun z => ?_)
    have hl := List.mem_range.mp hi
    rw [← h i hl] at z
    rw [leavesV_t.mpr ⟨i, hl, z⟩] at hc
    cases hc
theorem last_eq {MI : Nat → Nat → Int32} {A S : Nat} {x : Int32} (h : ∀ i, i < A → partV MI 1 (nI i) 0 = arR MI i 0) : lstC (fun s => leavesV MI 1 A (nI s)) S 0 x = lstR (isl (arR MI) A) x S 0 0 := by
  refine lst_eq (fun s => leaves_isl h) S 0 0 x ?_
  show x = x - 0
  grind

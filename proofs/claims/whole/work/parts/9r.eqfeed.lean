/-! feed: the tape -/
def It (MI : Mi) (u : Nat) : Prop := u ≤ 600 ∧ MI 14 1 = nI u ∧ MI 124 6 = nI u ∧ MI 15 = MI 127 ∧ isBy (MI 15)
theorem ptM_o {MI : Mi} {x : Int32} {u k b j : Nat} (h1 : b ≠ 15) (h2 : ¬ (b = 14 ∧ j = 1)) : ptM MI x u k b j = MI b j := by
  unfold ptM
  rw [if_neg (fun q => h1 q.1), if_neg h2]
theorem fdM_o {MI : Mi} {u : Nat} {a b c d e : Int32} {q j : Nat} (h1 : q ≠ 15) (h2 : ¬ (q = 14 ∧ j = 1)) : fdM MI u a b c d e q j = MI q j := by
  unfold fdM
  rw [ptM_o h1 h2, ptM_o h1 h2, ptM_o h1 h2, ptM_o h1 h2, ptM_o h1 h2]
theorem fdM_u {MI : Mi} {u : Nat} {a b c d e : Int32} : fdM MI u a b c d e 14 1 = nI (u + 20) := by
  unfold fdM
  show ptM _ e (u + 16) 4 14 1 = _
  unfold ptM
  rw [if_neg (fun q => absurd q.1 (by decide)), if_pos ⟨rfl, rfl⟩]
theorem rfd_o {MI : Mi} {u k : Nat} {a b c d e : Int32} {q j : Nat} (h1 : q ≠ 127) (h2 : ¬ (q = 124 ∧ j = 6)) : rfd MI u a b c d e k q j = MI q j := by
  unfold rfd
  rw [if_neg (fun z => h1 z.1), if_neg h2]
/-- both feeds, one behind the other: nothing but the tapes changes -/
theorem feed_It {MI : Mi} {u : Nat} {a b c d e : Int32} (h : It MI u) (hu : u + 20 ≤ 600) : It (rfd (th (fdM MI u a b c d e)) u a b c d e 20) (u + 20) := by
  obtain ⟨-, -, -, h4, h5⟩ := h
  have hr : th (fdM MI u a b c d e) 127 = MI 127 := by
    funext j
    show u2 (fdM MI u a b c d e) 124 0 0 127 j = _
    rw [u2_ne _ _ (by omega), fdM_o (by decide) (by omega)]
  have h15 : rfd (th (fdM MI u a b c d e)) u a b c d e 20 15 = fdM MI u a b c d e 15 := by
    funext j
    rw [rfd_o (by decide) (by omega)]
    show u2 (fdM MI u a b c d e) 124 0 0 15 j = _
    rw [u2_ne _ _ (by omega)]
  have h127 : rfd (th (fdM MI u a b c d e)) u a b c d e 20 127 = rfd MI u a b c d e 20 127 := by
    funext j
    unfold rfd
    by_cases hc : 127 = 127 ∧ u ≤ j ∧ j < u + 20
    · rw [if_pos hc, if_pos hc]
    · rw [if_neg hc, if_neg hc, if_neg (by omega), if_neg (by omega)]
      exact congrFun hr j
  have he : fdM MI u a b c d e 15 = rfd MI u a b c d e 20 127 := feed_row h4
  refine ⟨hu, ?_, ?_, ?_, ?_⟩
  · rw [rfd_o (by decide) (by omega)]
    show u2 (fdM MI u a b c d e) 124 0 0 14 1 = _
    rw [u2_ne _ _ (by omega), fdM_u]
  · unfold rfd
    rw [if_neg (by omega), if_pos ⟨rfl, rfl⟩]
  · rw [h15, h127, he]
  · rw [h15, he]
    exact feed_by (by rw [← h4]; exact h5)
theorem feed_oth {MI : Mi} {u : Nat} {a b c d e : Int32} {q j : Nat} (h1 : q ≠ 15) (h2 : q ≠ 127) (h3 : ¬ (q = 14 ∧ j = 1)) (h4 : ¬ (q = 124 ∧ (j = 0 ∨ j = 6))) : rfd (th (fdM MI u a b c d e)) u a b c d e 20 q j = MI q j := by
  rw [rfd_o h2 (by omega)]
  show u2 (fdM MI u a b c d e) 124 0 0 q j = _
  rw [u2_ne _ _ (by omega), fdM_o h1 h3]

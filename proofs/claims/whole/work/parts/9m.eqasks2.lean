/-! arc, gate, walk, bad, badAt -/
theorem told_c {MI : Mi} {S A Gn b K u : Nat} (h : Ic MI S A Gn b K u) (h0 : ¬ MI 1 0 = 0) : MI 1 0 = 1 := h.1.resolve_left h0
theorem ar_eq {MI : Mi} {S A Gn b K u : Nat} (h : Ic MI S A Gn b K u) (hP : PE (arP MI) (arR MI) A) (hg : MI 1 0 = 1 → tgE (tgC MI) (tgR MI)) (x y : Int32) : arAns MI x y = raAns MI x y := by
  obtain ⟨h01, ht, ⟨-, hA, -⟩, -, ⟨s1, s2⟩, -, -, -, -, h0⟩ := h
  have hB : inB y 0 6 = inR y 7 := inB_R (N := 6) (by decide)
  unfold arAns raAns rIA
  rw [hB, s1, s2, ht]
  rcases h01 with z | z
  · obtain ⟨-, rfl, -⟩ := h0 z
    rw [if_neg (fun q => inR_0 q.1), if_neg (fun q => ?_)]
    rw [z] at q
    exact absurd q.1 (by simp)
  · have z1 : ¬ MI 1 0 = 0 := by rw [z]; decide
    have e : (decide (¬ MI 1 0 = 0) && inR x (nI A)) = inR x (nI A) := by rw [decide_eq_true z1]; rfl
    rw [e]
    by_cases hc : inR x (nI A) = true ∧ inR y 7 = true
    · rw [if_pos hc, if_pos hc]
      obtain ⟨i, hi, rfl⟩ := inR_ex (N := A) (by omega) (inR_t.mp hc.1).1 (inR_t.mp hc.1).2
      obtain ⟨j, hj, rfl⟩ := inR_ex (N := 7) (by decide) (inR_t.mp hc.2).1 (inR_t.mp hc.2).2
      have h8 : i < 8 := by omega
      rw [nI_clamp (show i < 2 ^ 31 by omega), nI_clamp (show j < 2 ^ 31 by omega)]
      obtain ⟨-, -, t3, -⟩ := hg z
      have e1 : MI 47 i = MI 134 i := t3 i h8
      by_cases hj6 : j = 6
      · subst hj6
        have n6 : ¬ (nI 6 : Int32) < 6 := by decide
        have p6 : (nI 6 : Int32) = 6 := by decide
        have r8 : inR (nI i) 8 = true := inR_nI (N := 8) h8 (by decide)
        rw [if_pos p6, if_neg n6]
        by_cases hv : MI 47 i = 0
        · have hw : MI 134 i = 0 := by rw [← e1]; exact hv
          rw [if_neg (fun q => q.2 hv), if_pos hw]
        · have hw : ¬ MI 134 i = 0 := by rw [← e1]; exact hv
          rw [if_pos ⟨r8, hv⟩, if_neg hw]
      · have hj5 : j < 6 := by omega
        have n6 : ¬ (nI j : Int32) = 6 := fun q => hj6 ((nI_eq (by omega) (by decide)).mp (q : nI j = nI 6))
        have l6 : (nI j : Int32) < 6 := nI_lt (b := 6) hj5 (by decide)
        rw [if_neg n6, if_pos l6, partV_nI h8 hj5]
        have hp : MI (4 + i) j = MI 128 (7 + 6 * i + j) := hP i hi j hj5
        rw [show 1 + 3 + i = 4 + i by omega, hp]
    · rw [if_neg hc, if_neg hc]
theorem gt_eq {MI : Mi} {S A Gn b K u : Nat} (h : Ic MI S A Gn b K u) (hq : ∀ g, g < Gn → MI 128 (56 + 2 * g) = MI 12 g ∧ MI 128 (57 + 2 * g) = MI 13 g) (x y : Int32) : gtAns MI x y = rgAns MI x y := by
  obtain ⟨h01, ht, ⟨-, -, hG, -⟩, -, -, ⟨s1, s2⟩, -, -, -, h0⟩ := h
  have hB : inB y 0 1 = inR y 2 := inB_R (N := 1) (by decide)
  unfold gtAns rgAns
  rw [hB, s1, s2, ht]
  rcases h01 with z | z
  · obtain ⟨-, -, rfl, -⟩ := h0 z
    rw [if_neg (fun q => inR_0 q.1), if_neg (fun q => inR_0 q.1.2)]
  · have z1 : ¬ MI 1 0 = 0 := by rw [z]; decide
    by_cases hc : inR x (nI Gn) = true ∧ inR y 2 = true
    · have hc2 : (¬ MI 1 0 = 0 ∧ inR x (nI Gn) = true) ∧ inR y 2 = true := ⟨⟨z1, hc.1⟩, hc.2⟩
      rw [if_pos hc, if_pos hc2]
      clear hc2
      obtain ⟨i, hi, rfl⟩ := inR_ex (N := Gn) (by omega) (inR_t.mp hc.1).1 (inR_t.mp hc.1).2
      obtain ⟨j, hj, rfl⟩ := inR_ex (N := 2) (by decide) (inR_t.mp hc.2).1 (inR_t.mp hc.2).2
      have h16 : i < 16 := by omega
      rw [nI_clamp (show i < 2 ^ 31 by omega), nI_clamp (show j < 2 ^ 31 by omega)]
      rcases (show j = 0 ∨ j = 1 by omega) with rfl | rfl
      · have y0 : (nI 0 : Int32) = 0 := by decide
        rw [if_pos y0, pickV_nI _ h16 (by decide), Nat.add_zero, (hq i hi).1]
      · have y1 : ¬ (nI 1 : Int32) = 0 := by decide
        rw [if_neg y1, pickV_nI _ h16 (by decide), show 56 + 2 * i + 1 = 57 + 2 * i by omega, (hq i hi).2]
    · rw [if_neg hc, if_neg (fun q => hc ⟨q.1.2, q.2⟩)]
theorem wk_eq {MI : Mi} {S A Gn b K u w : Nat} (h : Ic MI S A Gn b K u) (hg : MI 1 0 = 1 → tgE (tgC MI) (tgR MI)) (hw : w < 6) (w1 : MI 85 1 = nI w) (w2 : MI 124 46 = nI w) (w3 : MI 85 2 = MI 124 47) (hv : MI 1 0 = 1 → MI 43 6 = 0 → ¬ MI 46 w = 0) (hp : MI 1 0 = 1 → MI 43 6 = 0 ∨ 0 < MI 43 6) (x : Int32) : wkAns MI x = rwAns MI x := by
  obtain ⟨h01, ht, -⟩ := h
  have hB : inB x 0 3 = inR x 4 := inB_R (N := 3) (by decide)
  unfold wkAns rwAns
  rw [hB, ht, w1, w2, w3]
  by_cases hc : MI 1 0 = 0 ∨ ¬ inR x 4 = true
  · rw [if_pos hc, if_pos hc]
  · rw [if_neg hc, if_neg hc]
    have z := h01.resolve_left (fun q => hc (Or.inl q))
    obtain ⟨-, t2, -, t4⟩ := hg z
    have e6 : MI 43 6 = MI 124 27 := congrArg Prod.fst t4
    by_cases h6 : MI 43 6 = 0
    · have n6 : ¬ (0 : Int32) < MI 124 27 := by rw [← e6, h6]; decide
      have e2 : MI 44 w = MI 135 w ∧ MI 45 w = MI 136 w := t2 w hw (hv z h6)
      rw [if_pos h6, if_neg n6, pickV_nI _ hw (by decide), pickV_nI _ hw (by decide), nI_clamp (by omega), e2.1, e2.2]
    · have p6 : (0 : Int32) < MI 124 27 := by rw [← e6]; exact (hp z).resolve_left h6
      rw [if_neg h6, if_pos p6]
theorem bd_eq {MI : Mi} {S A Gn b K u : Nat} (h : Ic MI S A Gn b K u) (hg : MI 1 0 = 1 → tgE (tgC MI) (tgR MI)) : (if MI 1 0 = 0 then (-1 : Int32) else MI 43 6) = (if MI 124 20 = 0 then -1 else MI 124 27) ∧ (if MI 1 0 = 0 then (-1 : Int32) else MI 43 7) = (if MI 124 20 = 0 then -1 else MI 124 28) := by
  obtain ⟨h01, ht, -⟩ := h
  rw [ht]
  by_cases hc : MI 1 0 = 0
  · rw [if_pos hc, if_pos hc, if_pos hc, if_pos hc]
    exact ⟨rfl, rfl⟩
  · obtain ⟨-, -, -, t4⟩ := hg (h01.resolve_left hc)
    rw [if_neg hc, if_neg hc, if_neg hc, if_neg hc]
    exact ⟨congrArg Prod.fst t4, congrArg Prod.snd t4⟩

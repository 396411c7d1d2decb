/-! the reference's reader: the whole text -/
theorem am_w {s : Rs} {k : Int32} : (wrR s k).2.1 = s.2.1 := rfl
theorem am_if {s : Rs} {k : Int32} {c : Prop} [d : Decidable c] : (if c then wrR s k else s).2.1 = s.2.1 := by split <;> rfl
theorem am_if2 {s : Rs} {k : Int32} {c : Prop} [d : Decidable c] : (if c then s else wrR s k).2.1 = s.2.1 := by split <;> rfl
theorem am_sa {T : Nat → Int32} {L : Nat} {S : Int32} {s : Rs} (h : okR L s) : s.2.1 ≤ (saR T L S s).2.2.1 := by
  unfold saR
  have h1 : okR L (if s.2.2.2.1 = 3 then (if s.2.2.2.2.1 < S then s else wrR s 2) else wrR s 1) := by
    split
    · exact okR_if2 (by decide) h
    · exact okR_w (by decide) h
  have h2 := nx_mono (T := T) h1
  have h3 : (if s.2.2.2.1 = 3 then (if s.2.2.2.2.1 < S then s else wrR s 2) else wrR s 1).2.1 = s.2.1 := by
    split
    · exact am_if2
    · rfl
  rw [h3] at h2
  exact h2
theorem am_sl {T : Nat → Int32} {L : Nat} {s : Rs} (h : okR L s) : s.2.1 ≤ (slR T L s).2.1 := by
  unfold slR
  have h2 := nx_mono (T := T) (okR_if2 (c := s.2.2.2.1 = 4 ∧ s.2.2.2.2.1 = 47) (k := 1) (by decide) h)
  rw [am_if2] at h2
  exact h2
theorem am_rl {T : Nat → Int32} {L : Nat} {a m : Int32} : ∀ (k : Nat) (q : Int32 × Rs), okR L q.2 → q.2.2.1 ≤ (rlR T L a m k q).2.2.1
  | 0, _, _ => Nat.le_refl _
  | k + 1, q, h => by
    rw [rlR]
    split
    · exact Nat.le_refl _
    · have h1 := okR_if (c := bitR q.1 (ltR q.2 a m) = true) (k := 3) (by decide) h
      have h2 := nx_mono (T := T) h1
      rw [am_if] at h2
      exact Nat.le_trans h2 (am_rl k (q.1 ||| ((1 : Int32) <<< (ltR q.2 a m &&& 31)), nxR T L (if bitR q.1 (ltR q.2 a m) = true then wrR q.2 3 else q.2)) (okR_n h1))
theorem am_c1 {T : Nat → Int32} {L : Nat} {s : Rs} {k : Int32} (h : okR L s) : s.2.1 ≤ (c1R T L k s).2.1 := by
  unfold c1R
  have h1 := okR_if (c := bitR (s.2.2.2.2.2.2.1 ||| s.2.2.2.2.2.2.2) k = true) (k := 3) (by decide) h
  have h2 := nx_mono (T := T) h1
  rw [am_if] at h2
  have h3 := okR_n (T := T) h1
  have h4 := nx_mono (T := T) (okR_cg (x := (1 : Int32) <<< (k &&& 31)) h3)
  have h5 : ∀ (z : Rs) (x : Int32), (cgR z x).2.1 = z.2.1 := fun z x => by
    unfold cgR
    split
    · rfl
    · split <;> rfl
  rw [h5] at h4
  exact Nat.le_trans h2 h4
theorem am_rc {T : Nat → Int32} {L : Nat} {a m : Int32} : ∀ (k : Nat) (s : Rs), okR L s → s.2.1 ≤ (rcR T L a m k s).2.1
  | 0, _, _ => Nat.le_refl _
  | k + 1, s, h => by
    rw [rcR]
    split
    · exact Nat.le_refl _
    · exact Nat.le_trans (am_c1 h) (am_rc k _ (okR_c1 h))
theorem am_g1 {T : Nat → Int32} {L : Nat} {q : Int32 × Int32 × Rs} (h : okR L q.2.2) : q.2.2.2.1 ≤ (gt1R T L q).2.2.2.1 := by
  have h1 := okR_if (c := bitR q.1 (lit q.2.2) = true) (k := 3) (by decide) h
  have h2 := nx_mono (T := T) h1
  rw [am_if] at h2
  have h3 := okR_n (T := T) h1
  have h4 := nx_mono (T := T) h3
  unfold gt1R
  simp only
  generalize nxR T L (if bitR q.1 (lit q.2.2) = true then wrR q.2.2 3 else q.2.2) = s1 at h2 h3 h4 ⊢
  split
  · exact Nat.le_trans h2 h4
  · exact h2
theorem am_rg {T : Nat → Int32} {L : Nat} : ∀ (k : Nat) (q : Int32 × Int32 × Rs), okR L q.2.2 → q.2.2.2.1 ≤ (rgR T L k q).2.2.2.1
  | 0, _, _ => Nat.le_refl _
  | k + 1, q, h => by
    rw [rgR]
    split
    · exact Nat.le_refl _
    · exact Nat.le_trans (am_g1 h) (am_rg k _ (okR_g1 h))
/-- what a line leaves as it was, and what holds behind it -/
def lnR (L : Nat) (T : Nat → Int32) (a : Nat) (z : Rs × Mi) : Prop := okR L z.1 ∧ dgI z.2 ∧ z.2 124 7 = nI L ∧ z.2 127 = T ∧ a ≤ z.1.2.1
theorem dgI_mk {D : Mi} {S A G : Nat} (h1 : S ≤ 6) (h2 : D 131 0 = nI S) (h3 : A ≤ 8) (h4 : D 129 6 = nI A) (h5 : G ≤ 16) (h6 : D 129 55 = nI G) : dgI D := by
  have e1 : kS D = S := by unfold kS; rw [h2]; exact nI_clamp (by omega)
  have e2 : kA D = A := by unfold kA; rw [h4]; exact nI_clamp (by omega)
  have e3 : kG D = G := by unfold kG; rw [h6]; exact nI_clamp (by omega)
  unfold dgI
  rw [e1, e2, e3]
  exact ⟨⟨h1, h2⟩, ⟨h3, h4⟩, ⟨h5, h6⟩⟩
theorem qsP_I {L : Nat} {T : Nat → Int32} {a : Nat} {s : Rs} {D : Mi} (h : lnR L T a (s, D)) : lnR L T a (qsP L s D) := by
  obtain ⟨ok, hD, h7, hT, ha⟩ := h
  have ok0 := okR_if (c := kS D = 6) (k := 5) (by decide) ok
  have ok1 := okR_n (T := D 127) ok0
  have a1 := nx_mono (T := D 127) ok0
  rw [am_if] at a1
  have ha2 : a ≤ s.2.1 := ha
  unfold qsP
  simp only
  generalize hs1 : nxR (D 127) L (if kS D = 6 then wrR s 5 else s) = s1 at ok1 a1
  have ok2 : okR L (if s1.2.2.2.1 = 3 then (if s1.2.2.2.2.1 < 4 then s1 else wrR s1 4) else wrR s1 1) := by
    split
    · exact okR_if2 (by decide) ok1
    · exact okR_w (by decide) ok1
  have a2 : (if s1.2.2.2.1 = 3 then (if s1.2.2.2.2.1 < 4 then s1 else wrR s1 4) else wrR s1 1).2.1 = s1.2.1 := by
    split
    · exact am_if2
    · rfl
  have hnf : ¬ 0 < (if s1.2.2.2.1 = 3 then (if s1.2.2.2.2.1 < 4 then s1 else wrR s1 4) else wrR s1 1).1 → kS D < 6 := fun hp => by
    rcases Nat.lt_or_ge (kS D) 6 with z | z
    · exact z
    · exfalso
      have h6 : kS D = 6 := Nat.le_antisymm hD.1.1 z
      have hw : s1 = wrR s 5 := by rw [← hs1, if_pos h6, nx_wr (by decide) ok]
      apply hp
      rw [if_neg (fun z => by rw [hw, wr_k] at z; exact absurd z (by decide))]
      show 0 < (if s1.1 = 0 then (1 : Int32) else s1.1)
      split
      · decide
      · rename_i z
        exact Int32.lt_of_le_of_ne (Int32.not_lt.mp ok1.2.2.2.1) (Ne.symm z)
  generalize (if s1.2.2.2.1 = 3 then (if s1.2.2.2.2.1 < 4 then s1 else wrR s1 4) else wrR s1 1) = s2 at ok2 a2 hnf
  have a3 := nx_mono (T := D 127) ok2
  split
  · exact ⟨ok2, hD, h7, hT, by show a ≤ s2.2.1; omega⟩
  · rename_i hp
    have h6 := hnf hp
    refine ⟨okR_n ok2, dgI_mk (D := u2 (u2 D 129 (kS D) s2.2.2.2.2.1) 131 0 (nI (kS D + 1))) (S := kS D + 1) (A := kA D) (G := kG D) h6 (u2_eq _ _ _ _) hD.2.1.1 ?_ hD.2.2.1 ?_, h7, hT, ?_⟩
    · rw [u2_row _ _ (by decide), u2_ne _ _ (by omega)]; exact hD.2.1.2
    · rw [u2_row _ _ (by decide), u2_ne _ _ (by omega)]; exact hD.2.2.2
    · show a ≤ (nxR (D 127) L s2).2.1
      omega
theorem qbP_I {L : Nat} {T : Nat → Int32} {a : Nat} {s : Rs} {D : Mi} (h : lnR L T a (s, D)) : lnR L T a (qbP L s D) := by
  obtain ⟨ok, hD, h7, hT, ha⟩ := h
  have ok0 := okR_if2 (c := D 131 1 = -1) (k := 3) (by decide) ok
  have ok1 := okR_n (T := D 127) ok0
  have a1 := nx_mono (T := D 127) ok0
  rw [am_if2] at a1
  have ha2 : a ≤ s.2.1 := ha
  unfold qbP
  simp only
  generalize nxR (D 127) L (if D 131 1 = -1 then s else wrR s 3) = s1 at ok1 a1
  have ok2 := okR_sa (T := D 127) (S := D 131 0) ok1
  have a2 := am_sa (T := D 127) (S := D 131 0) ok1
  generalize saR (D 127) L (D 131 0) s1 = r1 at ok2 a2
  have ok3 := okR_rl (T := D 127) (a := 97) (m := 4) (L + 1) (0, r1.2) ok2
  have a3 := am_rl (T := D 127) (a := 97) (m := 4) (L + 1) (0, r1.2) ok2
  generalize rlR (D 127) L 97 4 (L + 1) (0, r1.2) = r2 at ok3 a3
  have ok4 := okR_sl (T := D 127) ok3
  have a4 := am_sl (T := D 127) ok3
  have ok5 := okR_rl (T := D 127) (a := 112) (m := 3) (L + 1) (0, slR (D 127) L r2.2) ok4
  have a5 := am_rl (T := D 127) (a := 112) (m := 3) (L + 1) (0, slR (D 127) L r2.2) ok4
  generalize rlR (D 127) L 112 3 (L + 1) (0, slR (D 127) L r2.2) = r4 at ok5 a5
  have a3' : r1.2.2.1 ≤ r2.2.2.1 := a3
  have a5' : (slR (D 127) L r2.2).2.1 ≤ r4.2.2.1 := a5
  refine ⟨ok5, ?_, ?_, ?_, by show a ≤ r4.2.2.1; omega⟩
  · show dgI (if 0 < r4.2.1 then D else _)
    split
    · exact hD
    · refine dgI_mk (S := kS D) (A := kA D) (G := kG D) hD.1.1 ?_ hD.2.1.1 ?_ hD.2.2.1 ?_
      · rw [u2_ne _ _ (by omega), u2_ne _ _ (by omega), u2_ne _ _ (by omega)]; exact hD.1.2
      · rw [u2_row _ _ (by decide), u2_row _ _ (by decide), u2_row _ _ (by decide)]; exact hD.2.1.2
      · rw [u2_row _ _ (by decide), u2_row _ _ (by decide), u2_row _ _ (by decide)]; exact hD.2.2.2
  · show (if 0 < r4.2.1 then D else _) 124 7 = nI L
    split <;> exact h7
  · show (if 0 < r4.2.1 then D else _) 127 = T
    split <;> exact hT
theorem u2_129 {D : Mi} {j i : Nat} {x : Int32} (h : i ≠ j) : u2 D 129 j x 129 i = D 129 i := u2_ne _ _ (by omega)
theorem qaP_I {L : Nat} {T : Nat → Int32} {a : Nat} {s : Rs} {D : Mi} (h : lnR L T a (s, D)) (hb : 0 < (qaP L s D).1.1 ∨ kA D < 8) : lnR L T a (qaP L s D) := by
  obtain ⟨ok, hD, h7, hT, ha⟩ := h
  have ok0 := okR_if (c := kA D = 8) (k := 5) (by decide) ok
  have ok1 := okR_n (T := D 127) ok0
  have a1 := nx_mono (T := D 127) ok0
  rw [am_if] at a1
  have ha2 : a ≤ s.2.1 := ha
  revert hb
  unfold qaP
  simp only
  intro hb
  generalize nxR (D 127) L (if kA D = 8 then wrR s 5 else s) = s1 at ok1 a1 hb ⊢
  have ok2 := okR_sa (T := D 127) (S := D 131 0) ok1
  have a2 := am_sa (T := D 127) (S := D 131 0) ok1
  generalize saR (D 127) L (D 131 0) s1 = r1 at ok2 a2 hb ⊢
  have ok3 := okR_sa (T := D 127) (S := D 131 0) ok2
  have a3 := am_sa (T := D 127) (S := D 131 0) ok2
  generalize saR (D 127) L (D 131 0) r1.2 = r2 at ok3 a3 hb ⊢
  have ok3b := okR_qc ok3
  have a3b : (qcI r2.2).2.1 = r2.2.2.1 := by unfold qcI; rw [am_if]; rfl
  have ok4 := okR_rc (T := D 127) (a := 97) (m := 4) (L + 1) _ ok3b
  have a4 := am_rc (T := D 127) (a := 97) (m := 4) (L + 1) _ ok3b
  generalize rcR (D 127) L 97 4 (L + 1) (qcI r2.2) = s3 at ok4 a4 hb ⊢
  have ok5 := okR_sl (T := D 127) ok4
  have a5 := am_sl (T := D 127) ok4
  have ok6 := okR_rc (T := D 127) (a := 112) (m := 3) (L + 1) _ (okR_z ok5)
  have a6 := am_rc (T := D 127) (a := 112) (m := 3) (L + 1) _ (okR_z ok5)
  have a6b : (zRS (slR (D 127) L s3)).2.1 = (slR (D 127) L s3).2.1 := rfl
  generalize rcR (D 127) L 112 3 (L + 1) (zRS (slR (D 127) L s3)) = s4 at ok6 a6 hb ⊢
  have hb2 : 0 < s4.1 ∨ kA D < 8 := hb
  refine ⟨ok6, ?_, ?_, ?_, by show a ≤ s4.2.1; omega⟩
  · show dgI (if 0 < s4.1 then D else _)
    split
    · exact hD
    · rename_i hn
      have h8 : kA D < 8 := hb2.resolve_left hn
      refine dgI_mk (S := kS D) (A := kA D + 1) (G := kG D) hD.1.1 ?_ h8 (u2_eq _ _ _ _) hD.2.2.1 ?_
      · simp (discharger := decide) only [u2_row]; exact hD.1.2
      · rw [u2_129 (by omega), u2_129 (by omega), u2_129 (by omega), u2_129 (by omega), u2_129 (by omega), u2_129 (by omega), u2_129 (by omega)]; exact hD.2.2.2
  · show (if 0 < s4.1 then D else _) 124 7 = nI L
    split <;> exact h7
  · show (if 0 < s4.1 then D else _) 127 = T
    split <;> exact hT
theorem wr_ne {s : Rs} {k : Int32} (h : ¬ s.1 = 0 ∨ 0 < k) : ¬ (wrR s k).1 = 0 := by
  show ¬ (if s.1 = 0 then k else s.1) = 0
  split
  · rename_i z
    rcases h with h | h
    · exact absurd z h
    · exact fun q => by rw [q] at h; exact absurd h (by decide)
  · assumption
theorem sa_ne {T : Nat → Int32} {L : Nat} {S : Int32} {s : Rs} (ok : okR L s) (h : ¬ s.1 = 0) : ¬ (saR T L S s).2.1 = 0 := by
  have hk : ¬ s.2.2.2.1 = 3 := by rw [ok.2.2.2.2 h]; decide
  unfold saR
  rw [if_neg hk, nx_wr (by decide) ok]
  exact wr_ne (Or.inl h)
theorem rc_ne {T : Nat → Int32} {L : Nat} {a m : Int32} {s : Rs} (f : Nat) (ok : okR L s) (h : ¬ s.1 = 0) : rcR T L a m f s = s := by
  cases f with
  | zero => rfl
  | succ f => rw [rcR, if_pos (ltR_k (by rw [ok.2.2.2.2 h]; decide))]
theorem sl_ne {T : Nat → Int32} {L : Nat} {s : Rs} (ok : okR L s) (h : ¬ s.1 = 0) : ¬ (slR T L s).1 = 0 := by
  unfold slR
  rw [if_neg (fun z => by rw [ok.2.2.2.2 h] at z; exact absurd z.1 (by decide)), nx_wr (by decide) ok]
  exact wr_ne (Or.inl h)
theorem pos_ne {L : Nat} {s : Rs} (ok : okR L s) (h : ¬ s.1 = 0) : 0 < s.1 := Int32.lt_of_le_of_ne (Int32.not_lt.mp ok.2.2.2.1) (Ne.symm h)
theorem qa_full {L : Nat} {s : Rs} {D : Mi} (ok : okR L s) (h8 : kA D = 8) : 0 < (qaP L s D).1.1 := by
  have e : (qaP L s D).1 = rcR (D 127) L 112 3 (L + 1) (zRS (slR (D 127) L (rcR (D 127) L 97 4 (L + 1) (qcI (saR (D 127) L (D 131 0) (saR (D 127) L (D 131 0) (nxR (D 127) L (if kA D = 8 then wrR s 5 else s))).2).2)))) := by
    unfold qaP
    simp only
  rw [e, if_pos h8, nx_wr (by decide) ok]
  have ok1 := okR_w (k := 5) (by decide) ok
  have f1 : ¬ (wrR s 5).1 = 0 := wr_ne (Or.inr (by decide))
  revert ok1 f1
  generalize wrR s 5 = s1
  intro ok1 f1
  have ok2 := okR_sa (T := D 127) (S := D 131 0) ok1
  have f2 := sa_ne (T := D 127) (S := D 131 0) ok1 f1
  revert ok2 f2
  generalize saR (D 127) L (D 131 0) s1 = r1
  intro ok2 f2
  have ok3 := okR_sa (T := D 127) (S := D 131 0) ok2
  have f3 := sa_ne (T := D 127) (S := D 131 0) ok2 f2
  revert ok3 f3
  generalize saR (D 127) L (D 131 0) r1.2 = r2
  intro ok3 f3
  have ok4 := okR_qc ok3
  have f4 : ¬ (qcI r2.2).1 = 0 := by
    unfold qcI
    split
    · exact wr_ne (Or.inl f3)
    · exact f3
  revert ok4 f4
  generalize qcI r2.2 = r3
  intro ok4 f4
  rw [rc_ne (L + 1) ok4 f4]
  have f5 := sl_ne (T := D 127) ok4 f4
  have ok5 := okR_sl (T := D 127) ok4
  revert ok5 f5
  generalize slR (D 127) L r3 = r4
  intro f5 ok5
  have ok6 := okR_z ok5
  have f6 : ¬ (zRS r4).1 = 0 := f5
  rw [rc_ne (L + 1) ok6 f6]
  exact pos_ne ok6 f6
theorem qg_full {L : Nat} {s : Rs} {D : Mi} (ok : okR L s) (h8 : kG D = 16) : 0 < (qgP L s D).1.1 := by
  unfold qgP
  simp only
  rw [if_pos h8, nx_wr (by decide) ok]
  have ok1 := okR_w (k := 5) (by decide) ok
  have f1 : ¬ (wrR s 5).1 = 0 := wr_ne (Or.inr (by decide))
  generalize wrR s 5 = s1 at ok1 f1
  have ok2 := okR_if (c := fnR s1 = -1) (k := 1) (by decide) ok1
  have f2 : ¬ (if fnR s1 = -1 then wrR s1 1 else s1).1 = 0 := by
    split
    · exact wr_ne (Or.inl f1)
    · exact f1
  rw [nx_k0 ok2 f2, nx_lit _ _ ok2 f2]
  exact pos_ne ok2 f2
theorem qgP_I {L : Nat} {T : Nat → Int32} {a : Nat} {s : Rs} {D : Mi} (h : lnR L T a (s, D)) (hb : 0 < (qgP L s D).1.1 ∨ kG D < 16) : lnR L T a (qgP L s D) := by
  obtain ⟨ok, hD, h7, hT, ha⟩ := h
  have ok0 := okR_if (c := kG D = 16) (k := 5) (by decide) ok
  have ok1 := okR_n (T := D 127) ok0
  have a1 := nx_mono (T := D 127) ok0
  rw [am_if] at a1
  have ha2 : a ≤ s.2.1 := ha
  revert hb
  unfold qgP
  simp only
  intro hb
  generalize nxR (D 127) L (if kG D = 16 then wrR s 5 else s) = s1 at ok1 a1 hb ⊢
  have ok1b := okR_if (c := fnR s1 = -1) (k := 1) (by decide) ok1
  have ok2 := okR_n (T := D 127) ok1b
  have a2 := nx_mono (T := D 127) ok1b
  rw [am_if] at a2
  generalize nxR (D 127) L (if fnR s1 = -1 then wrR s1 1 else s1) = s2 at ok2 a2 hb ⊢
  have ok3 := okR_rg (T := D 127) (L + 1) (0, 0, s2) ok2
  have a3 := am_rg (T := D 127) (L + 1) (0, 0, s2) ok2
  generalize rgR (D 127) L (L + 1) (0, 0, s2) = q at ok3 a3 hb ⊢
  have a3' : s2.2.1 ≤ q.2.2.2.1 := a3
  have hb2 : 0 < q.2.2.1 ∨ kG D < 16 := hb
  refine ⟨ok3, ?_, ?_, ?_, by show a ≤ q.2.2.2.1; omega⟩
  · show dgI (if 0 < q.2.2.1 then D else _)
    split
    · exact hD
    · rename_i hn
      have h8 : kG D < 16 := hb2.resolve_left hn
      refine dgI_mk (S := kS D) (A := kA D) (G := kG D + 1) hD.1.1 ?_ hD.2.1.1 ?_ h8 (u2_eq _ _ _ _)
      · simp (discharger := decide) only [u2_row]; exact hD.1.2
      · rw [u2_129 (by omega), u2_129 (by omega), u2_129 (by omega)]; exact hD.2.1.2
  · show (if 0 < q.2.2.1 then D else _) 124 7 = nI L
    split <;> exact h7
  · show (if 0 < q.2.2.1 then D else _) 127 = T
    split <;> exact hT
theorem qlP_I {L : Nat} {T : Nat → Int32} {a : Nat} {z : Rs × Mi} (h : lnR L T a z) : lnR L T a (qlP L z) := by
  unfold qlP
  split
  · exact qsP_I h
  · split
    · exact qbP_I h
    · split
      · exact qaP_I h ((Nat.lt_or_ge (kA z.2) 8).symm.imp (fun q => qa_full h.1 (Nat.le_antisymm h.2.1.2.1.1 q)) id)
      · split
        · exact qgP_I h ((Nat.lt_or_ge (kG z.2) 16).symm.imp (fun q => qg_full h.1 (Nat.le_antisymm h.2.1.2.2.1 q)) id)
        · exact ⟨okR_w (by decide) h.1, h.2.1, h.2.2.1, h.2.2.2.1, h.2.2.2.2⟩
def qpP (L : Nat) : Nat → Rs × Mi → Rs × Mi
  | 0, z => z
  | k + 1, z => if z.1.2.2.2.1 = 4 ∧ z.1.2.2.2.2.1 = 59 then qpP L k (qlP L (nxR (z.2 127) L z.1, z.2)) else z
def qeP (z : Rs × Mi) : Rs := 
  let s := if z.1.2.2.2.1 = 1 then z.1 else wrR z.1 1
  if s.1 = 0 ∧ z.2 131 1 = -1 then wrR s 6 else s
def zr8 (D : Mi) (i : Nat) : Mi := fun b j => if b = 129 ∧ j < i then 0 else D b j
def qrP (L : Nat) (z : Rs × Mi) : Rs × Mi := (qeP (qpP L (L + 1) (qlP L (nxR (z.2 127) L z.1, z.2))), (qpP L (L + 1) (qlP L (nxR (z.2 127) L z.1, z.2))).2)
theorem okR_n0 {T : Nat → Int32} {L : Nat} {s : Rs} (h0 : s.1 = 0) (hs : s.2.2.1 ≤ L) : okR L (nxR T L s) := by
  have h := okR_n (T := T) (L := L) (s := (s.1, s.2.2.1, s.2.2.1, 0, s.2.2.2.2)) ⟨hs, Nat.le_refl _, fun q => absurd (show (0 : Int32) = 2 ∨ (0 : Int32) = 4 from q) (by decide), by rw [h0]; decide, fun _ => rfl⟩
  have h00 : ¬ 0 < s.1 := by rw [h0]; decide
  have e : nxR T L (s.1, s.2.2.1, s.2.2.1, 0, s.2.2.2.2) = nxR T L s := by
    unfold nxR
    rw [if_neg h00, if_neg h00]
    rfl
  rw [e] at h
  exact h
section rread
variable {X : xG} {n : Nat} {D : Nat → Nat → Int32} {E : Nat → Nat → Int64} {MR : Nat → Nat → Option Nat} {s : Rs} {L : Nat}
set_option maxRecDepth 100000 in
theorem c_X11_readAll (hM : x_Lay MR) (hS2 : x_S2 X) (hL : L ≤ 600) (hl : D 124 7 = nI L) (h0 : s.1 = 0) (hsp : s.2.2.1 ≤ L) {z : Rs × Mi} (hz : z = qrP L (s, u2 (u2 (zr8 D 88) 131 0 0) 131 1 (-1))) : Cf X yX11_readAll cX11_readAll 2 none 7 [.ref 124] n SH (laQ D s) (lwQ E s) MR none (laQ z.2 z.1) (lwQ E z.1) MR := by
  obtain ⟨T, hT⟩ : ∃ T, T = D 127 := ⟨_, rfl⟩
  obtain ⟨y, hy⟩ : ∃ y, y = qpP L (L + 1) (qlP L (nxR T L s, u2 (u2 (zr8 D 88) 131 0 0) 131 1 (-1))) := ⟨_, rfl⟩
  have hz2 : z = (qeP y, y.2) := by rw [hz, hy, hT]; rfl
  have e9 : ∀ (D : Mi) (s : Rs), laQ D s 124 9 = s.2.2.2.1 := fun _ _ => rfl
  have e12 : ∀ (D : Mi) (s : Rs), laQ D s 124 12 = s.1 := fun _ _ => rfl
  have c1 : (1 : Int32).toNatClampNeg = 1 := rfl
  have okn : okR L (nxR T L s) := okR_n0 h0 hsp
  refine Ct_of (by decide) (Nat.le_of_ble_eq_true rfl) (fun G hG => ?_)
  have j76 : ∀ s2, s2 = (if y.1.2.2.2.1 = 1 then y.1 else wrR y.1 1) → RW X G RX11 cX11_readAll 2 (x_rm 7 0 0) n SH (laQ y.2 s2) (lwQ E s2) MR 0 0 76 [(0, .ref 124)] [] := by
    intro s2 h2
    have hq : ∀ s3, s3 = (if s2.1 = 0 ∧ y.2 131 1 = -1 then wrR s2 6 else s2) → z = (s3, y.2) := fun s3 h3 => by
      rw [hz2, h3]
      unfold qeP
      simp only
      rw [← h2]
    refine r_aload_n 0 rfl dX11_readAll_76 ?_
    refine r_geti dX11_readAll_77 fl_X11_122 rfl ?_
    refine r_ifne (tgt := 99) dX11_readAll_80 (by decide) (fun zh80 => ?_) (fun zh80 => ?_)
    · exact r_vret hG dX11_readAll_99 (by
          rw [e12] at zh80
          first
            | (rw [c1, t_cell (by decide)] at zh90; rw [hq _ (if_pos ⟨zh80, zh90⟩).symm]; exact ⟨rfl, rfl, rfl, rfl⟩)
            | (rw [c1, t_cell (by decide)] at zh90; rw [hq _ (if_neg (fun c => zh90 c.2)).symm]; exact ⟨rfl, rfl, rfl, rfl⟩)
            | (rw [hq _ (if_neg (fun c => zh80 c.1)).symm]; exact ⟨rfl, rfl, rfl, rfl⟩))
    · refine r_aload_n 0 rfl dX11_readAll_83 ?_
      refine r_getr dX11_readAll_84 fl_X11_40 rfl (hM _ _ _ rfl) ?_
      refine r_iconst (v := 1) rfl dX11_readAll_87 ?_
      refine r_iald dX11_readAll_88 rfl (vpk (k := 1) (by decide) (by decide) rfl) ?_
      refine r_iconst (v := (-1)) rfl dX11_readAll_89 ?_
      refine r_icmpne (tgt := 99) dX11_readAll_90 (by decide) (fun zh90 => ?_) (fun zh90 => ?_)
      · exact r_vret hG dX11_readAll_99 (by
            rw [e12] at zh80
            first
              | (rw [c1, t_cell (by decide)] at zh90; rw [hq _ (if_pos ⟨zh80, zh90⟩).symm]; exact ⟨rfl, rfl, rfl, rfl⟩)
              | (rw [c1, t_cell (by decide)] at zh90; rw [hq _ (if_neg (fun c => zh90 c.2)).symm]; exact ⟨rfl, rfl, rfl, rfl⟩)
              | (rw [hq _ (if_neg (fun c => zh80 c.1)).symm]; exact ⟨rfl, rfl, rfl, rfl⟩))
      · refine r_aload_n 0 rfl dX11_readAll_93 ?_
        refine r_bipush (v := 6) rfl dX11_readAll_94 ?_
        refine r_Vn [.int _] dX11_readAll_96 lk_X11_183 mb_X11_wrong in_X11_wrong se_X11_wrong rfl (c_X11_wrong) rfl rfl rfl (Nat.le_of_ble_eq_true rfl) (rfl) ?_
        exact r_vret hG dX11_readAll_99 (by
            rw [e12] at zh80
            first
              | (rw [c1, t_cell (by decide)] at zh90; rw [hq _ (if_pos ⟨zh80, zh90⟩).symm]; exact ⟨rfl, rfl, rfl, rfl⟩)
              | (rw [c1, t_cell (by decide)] at zh90; rw [hq _ (if_neg (fun c => zh90 c.2)).symm]; exact ⟨rfl, rfl, rfl, rfl⟩)
              | (rw [hq _ (if_neg (fun c => zh80 c.1)).symm]; exact ⟨rfl, rfl, rfl, rfl⟩))
  have loop : ∀ f, ∀ q : Rs × Mi, lnR L T 0 q → (q.1.2.2.2.1 = 4 → L - q.1.2.1 < f) → qpP L f q = y → RW X G RX11 cX11_readAll 2 (x_rm 7 0 0) n SH (laQ q.2 q.1) (lwQ E q.1) MR 0 0 43 [(0, .ref 124)] [] := by
    intro f
    induction f with
    | zero =>
      intro q hI hm hq
      have hk : ¬ (q.1.2.2.2.1 = 4 ∧ q.1.2.2.2.2.1 = 59) := fun c => absurd (hm c.1) (Nat.not_lt_zero _)
      have e : q = y := hq
      subst e
      refine r_aload_n 0 rfl dX11_readAll_43 ?_
      refine r_bipush (v := 59) rfl dX11_readAll_44 ?_
      refine r_Vf [.int _] dX11_readAll_46 lk_X11_179 mb_X11_isSign in_X11_isSign se_X11_isSign rfl (c_X11_isSign) rfl rfl rfl (Nat.le_of_ble_eq_true rfl) (rfl) ?_
      refine r_ifeq (tgt := 63) dX11_readAll_49 (by decide) (fun zh49 => ?_) (fun zh49 => ?_)
      rotate_left
      · exact absurd zh49 (fun c => c (by rw [b2z, decide_eq_false_iff_not]; exact hk))
      refine r_aload_n 0 rfl dX11_readAll_63 ?_
      refine r_geti dX11_readAll_64 fl_X11_135 rfl ?_
      refine r_iconst (v := 1) rfl dX11_readAll_67 ?_
      refine r_icmpeq (tgt := 76) dX11_readAll_68 (by decide) (fun zh68 => ?_) (fun zh68 => ?_)
      · rw [e9] at zh68
        first
          | exact j76 _ (by rw [if_pos zh68])
          | exact j76 _ (by rw [if_neg zh68])
      · refine r_aload_n 0 rfl dX11_readAll_71 ?_
        refine r_iconst (v := 1) rfl dX11_readAll_72 ?_
        refine r_Vn [.int _] dX11_readAll_73 lk_X11_183 mb_X11_wrong in_X11_wrong se_X11_wrong rfl (c_X11_wrong) rfl rfl rfl (Nat.le_of_ble_eq_true rfl) (rfl) ?_
        rw [e9] at zh68
        first
          | exact j76 _ (by rw [if_pos zh68])
          | exact j76 _ (by rw [if_neg zh68])
    | succ f ih =>
      intro q hI hm hq
      rw [qpP] at hq
      obtain ⟨okq, hDq, h7q, hTq, haq⟩ := hI
      have stp : q.1.2.2.2.1 = 4 → lnR L T (q.1.2.1 + 1) (nxR (q.2 127) L q.1, q.2) := fun h4 => ⟨okR_n okq, hDq, h7q, hTq, nxR_at2 okq (Or.inr h4)⟩
      refine r_aload_n 0 rfl dX11_readAll_43 ?_
      refine r_bipush (v := 59) rfl dX11_readAll_44 ?_
      refine r_Vf [.int _] dX11_readAll_46 lk_X11_179 mb_X11_isSign in_X11_isSign se_X11_isSign rfl (c_X11_isSign) rfl rfl rfl (Nat.le_of_ble_eq_true rfl) (rfl) ?_
      refine r_ifeq (tgt := 63) dX11_readAll_49 (by decide) (fun zh49 => ?_) (fun zh49 => ?_)
      · refine r_aload_n 0 rfl dX11_readAll_63 ?_
        refine r_geti dX11_readAll_64 fl_X11_135 rfl ?_
        refine r_iconst (v := 1) rfl dX11_readAll_67 ?_
        refine r_icmpeq (tgt := 76) dX11_readAll_68 (by decide) (fun zh68 => ?_) (fun zh68 => ?_)
        · rw [b2z, decide_eq_false_iff_not] at zh49
          rw [if_neg zh49] at hq
          subst hq
          rw [e9] at zh68
          first
            | exact j76 _ (by rw [if_pos zh68])
            | exact j76 _ (by rw [if_neg zh68])
        · refine r_aload_n 0 rfl dX11_readAll_71 ?_
          refine r_iconst (v := 1) rfl dX11_readAll_72 ?_
          refine r_Vn [.int _] dX11_readAll_73 lk_X11_183 mb_X11_wrong in_X11_wrong se_X11_wrong rfl (c_X11_wrong) rfl rfl rfl (Nat.le_of_ble_eq_true rfl) (rfl) ?_
          rw [b2z, decide_eq_false_iff_not] at zh49
          rw [if_neg zh49] at hq
          subst hq
          rw [e9] at zh68
          first
            | exact j76 _ (by rw [if_pos zh68])
            | exact j76 _ (by rw [if_neg zh68])
      · rw [b2z, decide_eq_false_iff_not] at zh49
        have zh4 := Classical.not_not.mp zh49
        rw [if_pos zh4] at hq
        refine r_aload_n 0 rfl dX11_readAll_52 ?_
        refine r_Vn [] dX11_readAll_53 lk_X11_173 mb_X11_next in_X11_next se_X11_next rfl (c_X11_next hM hL h7q okq.1) rfl rfl rfl (Nat.le_of_ble_eq_true rfl) (rfl) ?_
        refine r_aload_n 0 rfl dX11_readAll_56 ?_
        refine r_Vn [] dX11_readAll_57 lk_X11_176 mb_X11_readLine in_X11_readLine se_X11_readLine rfl (c_X11_readLine hM hS2 hL h7q (okR_n okq) hDq rfl) rfl rfl rfl (Nat.le_of_ble_eq_true rfl) (rfl) ?_
        refine r_goto (tgt := 43) dX11_readAll_60 (by decide) ?_
        have hI2 := qlP_I (stp zh4.1)
        have hf := hm zh4.1
        refine ih _ ⟨hI2.1, hI2.2.1, hI2.2.2.1, hI2.2.2.2.1, Nat.zero_le _⟩ (fun h4 => ?_) hq
        have h8 := hI2.2.2.2.2
        have h9 := hI2.1.2.2.1 (Or.inr h4)
        have h10 := hI2.1.1
        omega
  have zl : ∀ i, i ≤ 88 → RW X G RX11 cX11_readAll 2 (x_rm 7 0 0) n SH (laQ (zr8 D i) s) (lwQ E s) MR 0 0 2 [(1, .int (nI i)), (0, .ref 124)] [] := by
    refine bwd (fun i hi ih => ?_)
    have hDD : dgI (u2 (u2 (zr8 D 88) 131 0 0) 131 1 (-1)) := dgI_mk (S := 0) (A := 0) (G := 0) (by decide) (by rw [u2_ne _ _ (by omega)]; exact u2_eq _ _ _ _) (by decide) (by rw [u2_row _ _ (by decide), u2_row _ _ (by decide)]; unfold zr8; rw [if_pos (by decide)]; rfl) (by decide) (by rw [u2_row _ _ (by decide), u2_row _ _ (by decide)]; unfold zr8; rw [if_pos (by decide)]; rfl)
    have h7 : u2 (u2 (zr8 D 88) 131 0 0) 131 1 (-1) 124 7 = nI L := hl
    have hT2 : u2 (u2 (zr8 D 88) 131 0 0) 131 1 (-1) 127 = T := by rw [hT]; rfl
    have hI1 : lnR L T 0 (nxR T L s, u2 (u2 (zr8 D 88) 131 0 0) 131 1 (-1)) := ⟨okn, hDD, h7, hT2, Nat.zero_le _⟩
    refine r_iload_n 0 rfl dX11_readAll_2 ?_
    refine r_bipush (v := 88) rfl dX11_readAll_3 ?_
    refine r_icmpge (tgt := 21) dX11_readAll_5 (by decide) (fun zh5 => ?_) (fun zh5 => ?_)
    · obtain rfl : i = 88 := by have := geL (k := 88) (by decide) (by omega) zh5; omega
      refine r_aload_n 1 rfl dX11_readAll_21 ?_
      refine r_getr dX11_readAll_22 fl_X11_40 rfl (hM _ _ _ rfl) ?_
      refine r_iconst (v := 0) rfl dX11_readAll_25 ?_
      refine r_iconst (v := 0) rfl dX11_readAll_26 ?_
      refine r_iast dX11_readAll_27 rfl (vpk (k := 0) (by decide) (by decide) rfl) ?_
      refine r_aload_n 1 rfl dX11_readAll_28 ?_
      refine r_getr dX11_readAll_29 fl_X11_40 rfl (hM _ _ _ rfl) ?_
      refine r_iconst (v := 1) rfl dX11_readAll_32 ?_
      refine r_iconst (v := (-1)) rfl dX11_readAll_33 ?_
      refine r_iast dX11_readAll_34 rfl (vpk (k := 1) (by decide) (by decide) rfl) ?_
      refine r_mem (MI2 := laQ (u2 (u2 (zr8 D 88) 131 0 0) 131 1 (-1)) s) (by rw [laQ_D _ (by decide), laQ_D _ (by decide)]; rfl) rfl rfl ?_
      refine r_aload_n 1 rfl dX11_readAll_35 ?_
      refine r_Vn [] dX11_readAll_36 lk_X11_173 mb_X11_next in_X11_next se_X11_next rfl (c_X11_next (D := u2 (u2 (zr8 D 88) 131 0 0) 131 1 (-1)) hM hL h7 hsp) rfl rfl rfl (Nat.le_of_ble_eq_true rfl) (rfl) ?_
      rw [hT2]
      refine r_aload_n 1 rfl dX11_readAll_39 ?_
      refine r_Vn [] dX11_readAll_40 lk_X11_176 mb_X11_readLine in_X11_readLine se_X11_readLine rfl (c_X11_readLine (D := u2 (u2 (zr8 D 88) 131 0 0) 131 1 (-1)) hM hS2 hL h7 okn hDD rfl) rfl rfl rfl (Nat.le_of_ble_eq_true rfl) (rfl) ?_
      have hI2 := qlP_I hI1
      exact r_sub [1] rfl (loop (L + 1) _ ⟨hI2.1, hI2.2.1, hI2.2.2.1, hI2.2.2.2.1, Nat.zero_le _⟩ (fun _ => by omega) hy.symm)
    · have hlt : i < 88 := ltL (by omega) zh5
      refine r_aload_n 1 rfl dX11_readAll_8 ?_
      refine r_getr dX11_readAll_9 fl_X11_34 rfl (hM _ _ _ rfl) ?_
      refine r_iload_n 0 rfl dX11_readAll_12 ?_
      refine r_iconst (v := 0) rfl dX11_readAll_13 ?_
      refine r_iast dX11_readAll_14 rfl (vp_in_nI hlt (by decide)) ?_
      refine r_iinc (v := (nI (i + 1))) (ls2 := [(1, .int (nI (i + 1))), (0, .ref 124)]) 0 dX11_readAll_15 rfl (x_inc i) (by decide) rfl ?_
      refine r_goto (tgt := 2) dX11_readAll_18 (by decide) ?_
      refine r_mem ?_ rfl rfl (ih hlt)
      rw [nI_clamp (by omega), laQ_D _ (by decide)]
      congr 1
      funext b j
      simp only [u2, zr8]
      grind
  refine r_iconst (v := 0) rfl dX11_readAll_0 ?_
  refine r_istore_n (ls2 := [(1, .int 0), (0, .ref 124)]) dX11_readAll_1 (by decide) rfl ?_
  refine r_mem ?_ rfl rfl (zl 0 (by decide))
  congr 1
  funext b j
  simp only [zr8]
  grind
end rread

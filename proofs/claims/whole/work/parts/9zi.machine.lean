/-! machine -/
section mach
variable {X : xG} {MI W U W2 V M : Mi} {ML B D : Nat → Nat → Int64} {MR MR2 : Nat → Nat → Option Nat} {r r2 : Nat → Nat} {S A Gn b K u bi bo w f A2 G2 K2 L a0 a1 : Nat} {x y : Int32}
theorem tk_o {q : Nat} (h : ¬ (1 ≤ q ∧ q ≤ 13)) : tkG V 16 q = V q := by
  funext j
  unfold tkG
  rw [if_neg (by omega)]
  unfold tkR
  rw [if_neg (by omega)]
  unfold tkC
  rw [if_neg (by omega)]
  unfold tkF
  rw [if_neg (by omega)]
theorem tk_1 {j : Nat} (h : j = 0 ∨ j = 1 ∨ j = 3 ∨ j = 4 ∨ j = 5 ∨ j = 6 ∨ j = 8) : tkG V 16 1 j = V 16 j := by
  unfold tkG
  rw [if_neg (by omega)]
  unfold tkR
  rw [if_neg (by omega)]
  unfold tkC
  rw [if_neg (by omega)]
  unfold tkF
  rw [if_pos ⟨rfl, h⟩]
theorem tk_2 {j : Nat} (h : j < 6) : tkG V 16 2 j = V 17 j := by
  unfold tkG
  rw [if_neg (by omega)]
  unfold tkR
  rw [if_neg (by omega)]
  unfold tkC
  rw [if_pos ⟨rfl, h⟩]
theorem tk_4 {i j : Nat} (hi : i < 8) (h : j < 6) : tkG V 16 (4 + i) j = V (19 + i) j := by
  unfold tkG
  rw [if_neg (by omega)]
  unfold tkR
  rw [if_pos (by omega), show 4 + i + 15 = 19 + i by omega]
theorem tk_12 {j : Nat} (h : j < 16) : tkG V 16 12 j = V 27 j ∧ tkG V 16 13 j = V 28 j := by
  unfold tkG
  rw [if_pos (by omega), if_pos (by omega)]
  exact ⟨rfl, rfl⟩
/-- the class's cells behind its reading -/
theorem mc_row {q : Nat} (h0 : q ≠ 0) (h14 : q ≠ 14) : mcM MI L a0 q = (rdQ MI L a0).2 q := by
  unfold mcM
  rw [u2_row _ _ h0, u2_row _ _ h14, laP_b _ h14]
theorem rdQ_o {q : Nat} (h : q < 14 ∨ q = 15 ∨ 28 < q) : (rdQ MI L a0).2 q = MI q := by
  unfold rdQ
  rw [kpC_rds q (by omega)]
  show clearM (u2 MI 14 5 (nI L)) 16 q = _
  unfold clearM
  rw [u2_row _ _ (by omega), u2_row _ _ (by omega), u2_row _ _ (by omega), u2_row _ _ (by omega), u2_row _ _ (by omega), u2_row _ _ (by omega), u2_row _ _ (by omega), u2_row _ _ (by omega)]
theorem mc_o {q : Nat} (h0 : q ≠ 0) (h : q < 14 ∨ q = 15 ∨ 28 < q) : mcM MI L a0 q = MI q := by
  rw [mc_row h0 (by omega), rdQ_o h]
theorem mc_14 : mcM MI L a0 14 1 = 0 ∧ mcM MI L a0 14 4 = (rdQ MI L a0).1.2.1 := by
  unfold mcM
  refine ⟨?_, ?_⟩
  · rw [u2_row _ _ (by decide)]; exact u2_eq _ _ _ _
  · rw [u2_row _ _ (by decide), u2_ne _ _ (by omega)]
    unfold laP
    rw [if_pos rfl, if_neg (by decide), if_pos rfl]
theorem mc_09 : mcM MI L a0 0 9 = (rdQ MI L a0).1.1 := by
  unfold mcM
  exact u2_eq _ _ _ _
/-- the reference's cells behind its reading -/
theorem rm_o {q : Nat} (h1 : q ≠ 124) (h2 : q ≠ 129) (h3 : q ≠ 131) : rmV U B L a1 q = U q := by
  have e : rmV U B L a1 q = (rmQ U B L a1).2 q := by
    funext j
    unfold rmV laQ
    rw [if_neg h1]
  rw [e]
  unfold rmQ
  rw [kpR2_qr q h2 h3]
  show u2 (u2 (zr8 (rmD U L) 88) 131 0 0) 131 1 (-1) q = _
  rw [u2_row _ _ h3, u2_row _ _ h3]
  have : zr8 (rmD U L) 88 q = rmD U L q := by
    funext j
    unfold zr8
    rw [if_neg (by omega)]
  rw [this]
  unfold rmD
  rw [u2_row _ _ h1, u2_row _ _ h1, th_b h1]
theorem rm_24 {j : Nat} (h : j ≠ 12 ∧ j ≠ 10 ∧ j ≠ 8 ∧ j ≠ 9 ∧ j ≠ 11 ∧ j ≠ 21 ∧ j ≠ 22) (h0 : j ≠ 0) (h7 : j ≠ 7) (h6 : j ≠ 6) : rmV U B L a1 124 j = U 124 j := by
  unfold rmV laQ
  rw [if_pos rfl, if_neg h.1, if_neg h.2.1, if_neg h.2.2.1, if_neg h.2.2.2.1, if_neg h.2.2.2.2.1, if_neg h.2.2.2.2.2.1, if_neg h.2.2.2.2.2.2]
  unfold rmQ
  rw [kpR2_qr 124 (by decide) (by decide)]
  show u2 (u2 (zr8 (rmD U L) 88) 131 0 0) 131 1 (-1) 124 j = _
  rw [u2_row _ _ (by decide), u2_row _ _ (by decide)]
  unfold zr8
  rw [if_neg (by omega)]
  unfold rmD
  rw [u2_ne _ _ (by omega), u2_ne _ _ (by omega)]
  exact u2_ne _ _ (by omega)
theorem rm_6 : rmV U B L a1 124 6 = 0 := by
  unfold rmV laQ
  rw [if_pos rfl, if_neg (by decide), if_neg (by decide), if_neg (by decide), if_neg (by decide), if_neg (by decide), if_neg (by decide), if_neg (by decide)]
  unfold rmQ
  rw [kpR2_qr 124 (by decide) (by decide)]
  show u2 (u2 (zr8 (rmD U L) 88) 131 0 0) 131 1 (-1) 124 6 = _
  rw [u2_row _ _ (by decide), u2_row _ _ (by decide)]
  unfold zr8
  rw [if_neg (by omega)]
  unfold rmD
  exact u2_eq _ _ _ _
theorem rm_12 : rmV U B L a1 124 12 = (rmQ U B L a1).1.1 ∧ rmV U B L a1 124 10 = nI (rmQ U B L a1).1.2.1 := by
  unfold rmV laQ
  refine ⟨?_, ?_⟩
  · rw [if_pos rfl, if_pos rfl]
  · rw [if_pos rfl, if_neg (by decide), if_pos rfl]
theorem rmE_o {c : Nat} (h : c ≠ 124) : rmE B U L a1 c = B c := by
  unfold rmE lwQ
  rw [u2_row _ _ h]
/-- class and reference read alike -/
theorem mach_E (hIt : It MI u) (hU : U 127 = MI 127) : ((rdQ MI L a0).1.1 = 0 ∧ (rmQ U B L a1).1.1 = 0 ∧ (∃ S A G, dRl (rdQ MI L a0).2 (rmQ U B L a1).2 S A G) ∧ (rdQ MI L a0).2 16 0 = 1) ∨ FL (rdQ MI L a0).1 (rmQ U B L a1).1 := by
  have hT : isBy (MI 15) := hIt.2.2.2.2
  unfold rdQ rmQ
  refine read_E (T := MI 15) hT rfl rfl rfl rfl ?_ ?_ ?_
  · unfold clearM
    rw [u2_row _ _ (by decide), u2_row _ _ (by decide), u2_row _ _ (by decide), u2_row _ _ (by decide), u2_row _ _ (by decide), u2_row _ _ (by decide), u2_row _ _ (by decide), u2_row _ _ (by decide)]
  · rw [u2_row _ _ (by decide), u2_row _ _ (by decide)]
    have : zr8 (rmD U L) 88 127 = rmD U L 127 := by
      funext j
      unfold zr8
      rw [if_neg (by omega)]
    rw [this]
    unfold rmD
    rw [u2_row _ _ (by decide), u2_row _ _ (by decide), th_b (by decide), hU]
    exact hIt.2.2.2.1.symm
  · have c16 : ∀ j, j = 0 ∨ j = 1 ∨ j = 3 ∨ j = 4 ∨ j = 5 ∨ j = 6 ∨ j = 8 → clearM (u2 MI 14 5 (nI L)) 16 16 j = 0 := fun j hj => by
      unfold clearM
      simp only [u2]
      grind
    have e129 : ∀ j, j < 88 → u2 (u2 (zr8 (rmD U L) 88) 131 0 0) 131 1 (-1) 129 j = 0 := fun j hj => by
      rw [u2_row _ _ (by decide), u2_row _ _ (by decide)]
      unfold zr8
      rw [if_pos ⟨rfl, hj⟩]
    have e131 : u2 (u2 (zr8 (rmD U L) 88) 131 0 0) 131 1 (-1) 131 0 = 0 ∧ u2 (u2 (zr8 (rmD U L) 88) 131 0 0) 131 1 (-1) 131 1 = -1 := by
      refine ⟨?_, u2_eq _ _ _ _⟩
      rw [u2_ne _ _ (by omega)]; exact u2_eq _ _ _ _
    refine ⟨⟨by decide, by decide, by decide⟩, ⟨?_, ?_, ?_, ?_, ?_, ?_⟩, fun s hs => absurd hs (Nat.not_lt_zero s), fun i hi => absurd hi (Nat.not_lt_zero i), fun g hg => absurd hg (Nat.not_lt_zero g), Or.inl ⟨c16 0 (by omega), e131.2⟩⟩
    · exact c16 1 (by omega)
    · exact e131.1
    · exact c16 6 (by omega)
    · exact e129 6 (by decide)
    · exact c16 8 (by omega)
    · exact e129 55 (by decide)
theorem rdQ_df : dfI (rdQ MI L a0).2 := by
  unfold rdQ
  have c16 : ∀ j, j = 0 ∨ j = 1 ∨ j = 3 ∨ j = 4 ∨ j = 5 ∨ j = 6 ∨ j = 8 → clearM (u2 MI 14 5 (nI L)) 16 16 j = 0 := fun j hj => by
    unfold clearM
    simp only [u2]
    grind
  refine rds_df rfl (dfI_mk (S := 0) (A := 0) (G := 0) (by decide) (c16 1 (by omega)) (by decide) (c16 6 (by omega)) (by decide) (c16 8 (by omega)) (Or.inl (c16 0 (by omega)))) ?_
  unfold clearM
  rw [u2_row _ _ (by decide), u2_row _ _ (by decide), u2_row _ _ (by decide), u2_row _ _ (by decide), u2_row _ _ (by decide), u2_row _ _ (by decide), u2_row _ _ (by decide)]
  exact u2_eq _ _ _ _
end mach

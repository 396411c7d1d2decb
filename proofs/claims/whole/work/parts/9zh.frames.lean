/-! what the readers leave alone -/
theorem nI_sur (v : Int32) : ∃ n, v = nI n := ⟨v.toBitVec.toNat, by
  unfold nI
  apply Int32.toBitVec_inj.mp
  rw [Int32.toBitVec_ofNat']
  exact BitVec.eq_of_toNat_eq (by simp)⟩
/-- the class's -/
def kpC (D D2 : Mi) : Prop := ∀ b, b < 16 ∨ 28 < b → D2 b = D b
theorem kpC_ln {L : Nat} {q : Ps × Mi} : kpC q.2 (lnP L q).2 := by
  intro b hb
  unfold lnP
  split
  · unfold rsP
    split
    · split
      · split
        · show u2 (u2 _ _ _ _) _ _ _ b = _
          rw [u2_row _ _ (by omega), u2_row _ _ (by omega)]
        · rfl
      · rfl
    · rfl
  · split
    · unfold rbP
      split
      · show u2 (u2 (u2 (u2 _ _ _ _) _ _ _) _ _ _) _ _ _ b = _
        rw [u2_row _ _ (by omega), u2_row _ _ (by omega), u2_row _ _ (by omega), u2_row _ _ (by omega)]
      · rfl
    · split
      · unfold raP
        split
        · rename_i h8
          show u2 (u2 (u2 (u2 (u2 (u2 (u2 _ _ _ _) _ _ _) _ _ _) _ _ _) _ _ _) _ _ _) _ _ _ b = _
          rw [u2_row _ _ (by omega), u2_row _ _ (by omega), u2_row _ _ (by omega), u2_row _ _ (by omega), u2_row _ _ (by omega), u2_row _ _ (by omega), u2_row _ _ (by omega)]
        · rfl
      · split
        · unfold rgP
          split
          · dsimp only
            split
            · rfl
            · show u2 (u2 (u2 _ _ _ _) _ _ _) _ _ _ b = _
              rw [u2_row _ _ (by omega), u2_row _ _ (by omega), u2_row _ _ (by omega)]
          · rfl
        · rfl
theorem kpC_lp {L : Nat} : ∀ k (q : Ps × Mi), kpC q.2 (lpP L k q).2 := by
  intro k
  induction k with
  | zero => intro q b _; rfl
  | succ k ih =>
    intro q b hb
    rw [lpP]
    split
    · rw [ih _ b hb]
      exact kpC_ln b hb
    · exact kpC_ln b hb
theorem kpC_rds {L : Nat} {q : Ps × Mi} : kpC q.2 (rdsP L q).2 := kpC_lp (L + 1) (stepP (q.2 15) L q.1, q.2)
theorem lpP_I {L : Nat} {T : Nat → Int32} : ∀ k (q : Ps × Mi), lnI L T q → lnI L T (lpP L k q) := by
  intro k
  induction k with
  | zero => intro q h; exact h
  | succ k ih =>
    intro q h
    rw [lpP]
    have h2 := lnP_I h
    split
    · exact ih _ ⟨okP_step h2.1, h2.2⟩
    · exact h2
theorem rds_df {L : Nat} {s : Ps} {D : Mi} (h0 : s.2.2.2.2.1 = 0) (hd : dfI D) (hl : D 14 5 = nI L) : dfI (rdsP L (s, D)).2 := by
  have ok : okP L (stepP (D 15) L s) := by
    have e : stepP (D 15) L s = stepP (D 15) L (s.1, s.2.1, s.2.2.1, 0, s.2.2.2.2) := rfl
    rw [e]
    refine okP_step ⟨?_, ?_⟩
    · exact Nat.zero_le _
    · show s.2.2.2.2.1 ≤ L
      rw [h0]; exact Nat.zero_le _
  exact (lpP_I (T := D 15) (L + 1) (stepP (D 15) L s, D) ⟨ok, hd, hl, rfl⟩).2.1
/-- the reference's -/
def kpR2 (D D2 : Mi) : Prop := ∀ b, b ≠ 129 → b ≠ 131 → D2 b = D b
set_option maxHeartbeats 100000 in
theorem kpR2_qs {L : Nat} {s : Rs} {D : Mi} {b : Nat} (h1 : b ≠ 129) (h2 : b ≠ 131) : (qsP L s D).2 b = D b := by
  have key : ∀ (s2 : Rs), (if 0 < s2.1 then (s2, D) else (nxR (D 127) L s2, u2 (u2 D 129 (kS D) s2.2.2.2.2.1) 131 0 (nI (kS D + 1)))).2 b = D b := fun s2 => by
    by_cases c : 0 < s2.1
    · rw [if_pos c]
    · rw [if_neg c]
      show u2 (u2 D 129 (kS D) s2.2.2.2.2.1) 131 0 (nI (kS D + 1)) b = D b
      rw [u2_row _ _ h2, u2_row _ _ h1]
  unfold qsP
  simp only
  generalize nxR (D 127) L (if kS D = 6 then wrR s 5 else s) = s1
  generalize (if s1.2.2.2.1 = 3 then (if s1.2.2.2.2.1 < 4 then s1 else wrR s1 4) else wrR s1 1) = s2
  exact key s2
set_option maxHeartbeats 100000 in
theorem kpR2_qb {L : Nat} {s : Rs} {D : Mi} {b : Nat} (h2 : b ≠ 131) : (qbP L s D).2 b = D b := by
  have key : ∀ (r1 r2 r4 : Int32 × Rs), ((r4.2, if 0 < r4.2.1 then D else u2 (u2 (u2 D 131 1 r1.1) 131 2 r2.1) 131 3 r4.1) : Rs × Mi).2 b = D b := fun r1 r2 r4 => by
    show (if 0 < r4.2.1 then D else u2 (u2 (u2 D 131 1 r1.1) 131 2 r2.1) 131 3 r4.1) b = D b
    by_cases c : 0 < r4.2.1
    · rw [if_pos c]
    · rw [if_neg c, u2_row _ _ h2, u2_row _ _ h2, u2_row _ _ h2]
  exact key _ _ _
set_option maxHeartbeats 100000 in
theorem kpR2_qa {L : Nat} {s : Rs} {D : Mi} {b : Nat} (h1 : b ≠ 129) : (qaP L s D).2 b = D b := by
  have key : ∀ (r1 r2 : Int32 × Rs) (s3 s4 : Rs), ((s4, if 0 < s4.1 then D else u2 (u2 (u2 (u2 (u2 (u2 (u2 D 129 (7 + 6 * kA D) r1.1) 129 (7 + 6 * kA D + 1) r2.1) 129 (7 + 6 * kA D + 2) s3.2.2.2.2.2.2.1) 129 (7 + 6 * kA D + 3) s3.2.2.2.2.2.2.2) 129 (7 + 6 * kA D + 4) s4.2.2.2.2.2.2.1) 129 (7 + 6 * kA D + 5) s4.2.2.2.2.2.2.2) 129 6 (nI (kA D + 1))) : Rs × Mi).2 b = D b := fun r1 r2 s3 s4 => by
    show (if 0 < s4.1 then D else u2 (u2 (u2 (u2 (u2 (u2 (u2 D 129 (7 + 6 * kA D) r1.1) 129 (7 + 6 * kA D + 1) r2.1) 129 (7 + 6 * kA D + 2) s3.2.2.2.2.2.2.1) 129 (7 + 6 * kA D + 3) s3.2.2.2.2.2.2.2) 129 (7 + 6 * kA D + 4) s4.2.2.2.2.2.2.1) 129 (7 + 6 * kA D + 5) s4.2.2.2.2.2.2.2) 129 6 (nI (kA D + 1))) b = D b
    by_cases c : 0 < s4.1
    · rw [if_pos c]
    · rw [if_neg c, u2_row _ _ h1, u2_row _ _ h1, u2_row _ _ h1, u2_row _ _ h1, u2_row _ _ h1, u2_row _ _ h1, u2_row _ _ h1]
  exact key _ _ _ _
set_option maxHeartbeats 100000 in
theorem kpR2_qg {L : Nat} {s : Rs} {D : Mi} {b : Nat} (h1 : b ≠ 129) : (qgP L s D).2 b = D b := by
  have key : ∀ (s1 : Rs) (q : Int32 × Int32 × Rs), ((q.2.2, if 0 < q.2.2.1 then D else u2 (u2 (u2 D 129 (56 + 2 * kG D) (fnR s1)) 129 (56 + 2 * kG D + 1) (numC q.2.1 (63 &&& (q.1 ^^^ -1)) 6)) 129 55 (nI (kG D + 1))) : Rs × Mi).2 b = D b := fun s1 q => by
    show (if 0 < q.2.2.1 then D else u2 (u2 (u2 D 129 (56 + 2 * kG D) (fnR s1)) 129 (56 + 2 * kG D + 1) (numC q.2.1 (63 &&& (q.1 ^^^ -1)) 6)) 129 55 (nI (kG D + 1))) b = D b
    by_cases c : 0 < q.2.2.1
    · rw [if_pos c]
    · rw [if_neg c, u2_row _ _ h1, u2_row _ _ h1, u2_row _ _ h1]
  exact key _ _
theorem kpR2_ql {L : Nat} {z : Rs × Mi} : kpR2 z.2 (qlP L z).2 := by
  intro b h1 h2
  unfold qlP
  split
  · exact kpR2_qs h1 h2
  · split
    · exact kpR2_qb h2
    · split
      · exact kpR2_qa h1
      · split
        · exact kpR2_qg h1
        · rfl
theorem kpR2_qp {L : Nat} : ∀ k (z : Rs × Mi), kpR2 z.2 (qpP L k z).2 := by
  intro k
  induction k with
  | zero => intro z b _ _; rfl
  | succ k ih =>
    intro z b h1 h2
    rw [qpP]
    split
    · rw [ih _ b h1 h2]
      exact kpR2_ql (L := L) (z := (nxR (z.2 127) L z.1, z.2)) b h1 h2
    · rfl
theorem kpR2_qr {L : Nat} {z : Rs × Mi} : kpR2 z.2 (qrP L z).2 := fun b h1 h2 => by
  show (qpP L (L + 1) (qlP L (nxR (z.2 127) L z.1, z.2))).2 b = _
  rw [kpR2_qp _ _ b h1 h2]
  exact kpR2_ql (L := L) (z := (nxR (z.2 127) L z.1, z.2)) b h1 h2
/-- B3 where the tape, the scratch machine and the acts' count change -/
theorem B3_Fr2 {MI W : Mi} {ML B : Nat → Nat → Int64} {r : Nat → Nat} {S A Gn b K bi bo w : Nat} (hr : ∀ k, k < 12 → r k < 12) (hA : A ≤ 8) (hK : K ≤ 12) (hS : S ≤ 6) (g : ∀ b, 1 ≤ b → b ≤ 55 → ¬ (14 ≤ b ∧ b ≤ 29) → W b = MI b) (g2 : ∀ b, b = 128 ∨ b = 130 ∨ (132 ≤ b ∧ b ≤ 138) → W b = MI b) (g85 : W 85 = MI 85) (k24 : ∀ j, j = 27 ∨ j = 28 ∨ j = 46 ∨ j = 47 → W 124 j = MI 124 j) (f4 : ∀ b, b = 49 ∨ b = 50 ∨ b = 137 ∨ b = 138 → B b = ML b) (h : B3 MI ML r S A Gn b K bi bo w) : B3 W B r S A Gn b K bi bo w := by
  obtain ⟨hIi, ⟨m1, m2⟩, hIa, hIv, hIk⟩ := h
  have hl : lvE S A Gn (MI 2) (W 2) (arP MI) (arP W) (MI 12) (W 12) (MI 13) (W 13) := lvE_rows hA (g 2 (by omega) (by omega) (by omega)) (fun i hi => g (4 + i) (by omega) (by omega) (by omega)) (g 12 (by omega) (by omega) (by omega)) (g 13 (by omega) (by omega) (by omega))
  have e1 : W 1 = MI 1 := g 1 (by omega) (by omega) (by omega)
  have e2 : W 2 = MI 2 := g 2 (by omega) (by omega) (by omega)
  have e43 : W 43 = MI 43 := g 43 (by omega) (by omega) (by omega)
  have e8 : W 128 = MI 128 := g2 128 (by omega)
  refine ⟨?_, ⟨mV_E hl m1, ?_⟩, ?_, ?_, ?_⟩
  · unfold Ii
    rw [e1, g2 130 (by omega)]
    exact hIi
  · rw [e8]
    exact vR_E hl m2
  · refine Ch_cg K _ _ _ _ _ _ _ _ A Gn (fun k hk => ⟨fun j _ => ?_, fun j _ => ?_⟩) hl hS hIa
    · have := hr k (by omega)
      rw [g (31 + r k) (by omega) (by omega) (by omega)]
    · show MI 132 _ = W 132 _
      rw [g2 132 (by omega)]
  · intro h1
    rw [e1] at h1
    obtain ⟨v1, P, v2, ⟨q, t, v3⟩, ⟨q', t', v4⟩, v5⟩ := hIv h1
    have eC : tgC W = tgC MI := by
      unfold tgC
      rw [g 46 (by omega) (by omega) (by omega), g 44 (by omega) (by omega) (by omega), g 45 (by omega) (by omega) (by omega), g 47 (by omega) (by omega) (by omega), e43]
    have eR : tgR W = tgR MI := by
      unfold tgR
      rw [g2 133 (by omega), g2 135 (by omega), g2 136 (by omega), g2 134 (by omega), k24 27 (by omega), k24 28 (by omega)]
    have eA : arR W = arR MI := by
      funext i j
      show W 128 _ = MI 128 _
      rw [e8]
    refine ⟨v1, P, fun i hi => by rw [v2 i hi, g (4 + i) (by omega) (by omega) (by omega)], ⟨q, t, ?_⟩, ⟨q', t', ?_⟩, ?_⟩
    · rw [f4 49 (by omega), f4 50 (by omega), eC, e2]
      exact v3
    · rw [f4 138 (by omega), f4 137 (by omega), eR, eA, e8]
      exact v4
    · rw [e43, eC, e2]
      intro z i hi c c1 c2
      rw [g c (by omega) (by omega) (by omega)]
      exact v5 z i hi c c1 c2
  · unfold Ik
    rw [g85, k24 46 (by omega), k24 47 (by omega), e1]
    exact hIk

/-! ACTS: recode, strike, add, undo -/
section act3
variable {X : xG} {MI W U W2 V M : Mi} {ML B D : Nat → Nat → Int64} {MR MR2 : Nat → Nat → Option Nat} {r r2 : Nat → Nat} {S A Gn b K u bi bo w f A2 G2 K2 : Nat} {x y : Int32}
/-- class and reference look anew -/
theorem inv_act (h : Inv MI ML MR r S A Gn b K u bi bo w) (tl : MI 1 0 = 1) (hL : x_Lay MR2 ∧ x_Rw MR2 r2) (hM : ∀ q, q ≠ 1 → q ≠ 2 → ¬ (4 ≤ q ∧ q ≤ 13) → q ≠ 29 → ¬ (31 ≤ q ∧ q ≤ 42) → M q = MI q) (hM1 : ∀ j, j ≠ 6 → j ≠ 8 → M 1 j = MI 1 j) (hU : U = ansM (saM M ML S A2) 0) (hW : ∀ q, q ≠ 124 → q ≠ 128 → q ≠ 132 → W q = U q) (hW24 : ∀ j, j ≠ 0 → j ≠ 19 → W 124 j = U 124 j) (c : (K2 ≤ 12 ∧ A2 ≤ 8 ∧ G2 ≤ 16) ∧ M 1 6 = nI A2 ∧ W 128 6 = nI A2 ∧ M 1 8 = nI G2 ∧ W 128 55 = nI G2 ∧ M 29 2 = nI K2 ∧ W 124 19 = nI K2) (hIm : Im W S A2 G2) (hIa : Ia W r2 S A2 G2 K2) : Inv (rfM (lkoM W (saL M ML S A2) S A2 b) 0) (lkoL W (saL M ML S A2) S A2 b) MR2 r2 S A2 G2 b K2 u bi bo b := by
  obtain ⟨hT, hIt, hIc, hIi, -, -, hIv, -⟩ := id h.2.1
  obtain ⟨⟨c1, c2, c3⟩, c4, c5, c6, c7, c8, c9⟩ := c
  have hb := (hIv tl).1
  have hS : S ≤ 6 := hIc.2.2.1.1
  have uS : ∀ q, q ≠ 0 → U q = saM M ML S A2 q := fun q z => by
    rw [hU]
    unfold ansM
    rw [u2_row _ _ z]
  have wM : ∀ q, q ≠ 0 → q ≠ 124 → q ≠ 128 → q ≠ 132 → q < 43 ∨ 123 < q → W q = M q := fun q z0 z1 z2 z3 z4 => by rw [hW q z1 z2 z3, uS q z0, sa_row (by omega)]
  have w24 : ∀ j, j ≠ 0 → j ≠ 19 → W 124 j = MI 124 j := fun j z1 z2 => by rw [hW24 j z1 z2, uS 124 (by decide), sa_row (by omega), hM 124 (by decide) (by decide) (by omega) (by decide) (by omega)]
  have eL : ∀ c, c ≠ 49 → c ≠ 50 → saL M ML S A2 c = ML c := fun c z1 z2 => by
    unfold saL layD
    rw [sr_ne _ _ z2, sr_ne _ _ z1]
  have w1 : W 1 = M 1 := wM 1 (by decide) (by decide) (by decide) (by decide) (by omega)
  have w130 : W 130 = MI 130 := (wM 130 (by decide) (by decide) (by decide) (by decide) (by omega)).trans (hM 130 (by decide) (by decide) (by omega) (by decide) (by omega))
  have w14 : W 14 = MI 14 := (wM 14 (by decide) (by decide) (by decide) (by decide) (by omega)).trans (hM 14 (by decide) (by decide) (by omega) (by decide) (by omega))
  have u0 : U 0 8 = 0 ∧ U 0 9 = MI 0 9 := by
    rw [hU]
    unfold ansM
    refine ⟨u2_eq _ _ _ _, ?_⟩
    rw [u2_ne _ _ (by omega), sa_row (by omega), hM 0 (by decide) (by decide) (by omega) (by decide) (by omega)]
  have w0 : W 0 = U 0 := hW 0 (by decide) (by decide) (by decide)
  have hSh : shI (saM M ML S A2) (saL M ML S A2) A2 := sa_shI (fun f hf => by
    rw [hM (89 + 7 * f) (by omega) (by omega) (by omega) (by omega) (by omega)]
    exact (h.2.2.2.1 f hf).1)
  refine inv_ref hL ⟨?_, ?_, ?_⟩ (It_cg hIt ?_ (w24 6 (by decide) (by decide)) ?_ ?_) ?_ ?_ hIm hIa (LkC_cg (fun q hq => ?_) rfl rfl (lk_cls hb c2 ?_ ?_ ?_)) ?_ (Ig_0 ?_) ⟨?_, ?_⟩ ?_ ?_
  · rw [eL 58 (by decide) (by decide)]; exact hT.1
  · rw [eL 125 (by decide) (by decide)]; exact hT.2.1
  · unfold muOK
    rw [wM 126 (by decide) (by decide) (by decide) (by decide) (by omega), hM 126 (by decide) (by decide) (by omega) (by decide) (by omega)]
    exact hT.2.2
  · rw [w14]
  · rw [wM 15 (by decide) (by decide) (by decide) (by decide) (by omega), hM 15 (by decide) (by decide) (by omega) (by decide) (by omega)]
  · rw [wM 127 (by decide) (by decide) (by decide) (by decide) (by omega), hM 127 (by decide) (by decide) (by omega) (by decide) (by omega)]
  · obtain ⟨i1, i2, ⟨i3, i4, i5, i6, i7⟩, i8, i9, i10, i11, i12, i13, i14⟩ := hIc
    unfold Ic
    rw [w1, w130, w14, w24 20 (by decide) (by decide), w24 6 (by decide) (by decide), hM1 0 (by decide) (by decide), hM1 1 (by decide) (by decide), hM1 3 (by decide) (by decide), wM 29 (by decide) (by decide) (by decide) (by decide) (by omega)]
    exact ⟨i1, i2, ⟨i3, c2, c3, c1, i7⟩, i8, ⟨c4, c5⟩, ⟨c6, c7⟩, i11, ⟨c8, c9⟩, i13, fun z => absurd tl (by rw [z]; decide)⟩
  · unfold Ii
    rw [w1, w130, hM1 4 (by decide) (by decide), hM1 5 (by decide) (by decide)]
    exact hIi
  · rw [hW q (by omega) (by omega) (by omega), uS q (by omega)]
  · rw [hM1 3 (by decide) (by decide)]; exact hIc.2.2.2.2.2.2.1.1
  · rw [hM1 4 (by decide) (by decide)]; exact hIi.2.1.1
  · rw [hM1 5 (by decide) (by decide)]; exact hIi.2.2.1
  · refine shI_cg ⟨?_, fun c hc => ?_, rfl, rfl⟩ (fun c z1 z2 => ⟨?_, rfl⟩) hSh
    · rw [w1, sa_row (by omega)]
    · rw [hW c (by omega) (by omega) (by omega), uS c (by omega)]
    · rw [hW c (by omega) (by omega) (by omega), uS c (by omega)]
  · rw [hW 60 (by decide) (by decide) (by decide), uS 60 (by decide)]; exact sa_60
  · rw [hW 85 (by decide) (by decide) (by decide), uS 85 (by decide), sa_85.1, hM1 3 (by decide) (by decide)]; exact hIc.2.2.2.2.2.2.1.1
  · rw [hW 85 (by decide) (by decide) (by decide), uS 85 (by decide)]; exact sa_85.2
  · rw [w0]; exact u0.1
  · rw [w0, u0.2, w24 12 (by decide) (by decide)]; exact h.2.2.1.2.2
/-- the reference alone looks anew: GATES came or went -/
theorem inv_gate (h : Inv MI ML MR r S A Gn b K u bi bo w) (tl : MI 1 0 = 1) (hL : x_Lay MR2 ∧ x_Rw MR2 r2) (hM : ∀ q, q ≠ 0 → q ≠ 1 → q ≠ 12 → q ≠ 13 → q ≠ 29 → ¬ (31 ≤ q ∧ q ≤ 42) → q ≠ 85 → q ≠ 124 → q ≠ 128 → q ≠ 132 → W q = MI q) (hM1 : ∀ j, j ≠ 8 → W 1 j = MI 1 j) (hW24 : ∀ j, j ≠ 0 → j ≠ 19 → W 124 j = MI 124 j) (c : (K2 ≤ 12 ∧ G2 ≤ 16) ∧ W 128 6 = nI A ∧ W 1 8 = nI G2 ∧ W 128 55 = nI G2 ∧ W 29 2 = nI K2 ∧ W 124 19 = nI K2) (hk : W 85 1 = nI b ∧ W 85 2 = 0) (h0 : W 0 8 = 0 ∧ W 0 9 = MI 0 9) (hIm : Im W S A G2) (hIa : Ia W r2 S A G2 K2) : Inv (rfM (lkoM W ML S A b) 0) (lkoL W ML S A b) MR2 r2 S A G2 b K2 u bi bo b := by
  obtain ⟨hT, hIt, hIc, hIi, -, -, hIv, -⟩ := id h.2.1
  obtain ⟨⟨c1, c3⟩, c5, c6, c7, c8, c9⟩ := c
  have wr : ∀ q, q ≠ 0 → q ≠ 1 → q ≠ 12 → q ≠ 13 → q ≠ 29 → ¬ (31 ≤ q ∧ q ≤ 42) → q ≠ 85 → q ≠ 124 → q ≠ 128 → q ≠ 132 → W q = MI q := hM
  have w130 : W 130 = MI 130 := hM 130 (by decide) (by decide) (by decide) (by decide) (by decide) (by omega) (by decide) (by decide) (by decide) (by decide)
  have w14 : W 14 = MI 14 := hM 14 (by decide) (by decide) (by decide) (by decide) (by decide) (by omega) (by decide) (by decide) (by decide) (by decide)
  have hv : LkC MI ML S A b bi bo := by
    obtain ⟨v1, P, v2, v3, v4, v5⟩ := hIv tl
    exact ⟨v1, P, v2, v3, v5⟩
  have g : ∀ q, q = 2 ∨ (4 ≤ q ∧ q ≤ 11) ∨ (43 ≤ q ∧ q ≤ 84) ∨ (86 ≤ q ∧ q ≤ 123) → W q = MI q := fun q hq => hM q (by omega) (by omega) (by omega) (by omega) (by omega) (by omega) (by omega) (by omega) (by omega) (by omega)
  refine inv_ref hL ⟨hT.1, hT.2.1, ?_⟩ (It_cg hIt ?_ (hW24 6 (by decide) (by decide)) ?_ ?_) ?_ ?_ hIm hIa (LkC_cg (fun q hq => g q (by omega)) rfl rfl hv) ?_ ?_ hk h0.1 ?_
  · unfold muOK
    rw [hM 126 (by decide) (by decide) (by decide) (by decide) (by decide) (by omega) (by decide) (by decide) (by decide) (by decide)]
    exact hT.2.2
  · rw [w14]
  · exact hM 15 (by decide) (by decide) (by decide) (by decide) (by decide) (by omega) (by decide) (by decide) (by decide) (by decide)
  · exact hM 127 (by decide) (by decide) (by decide) (by decide) (by decide) (by omega) (by decide) (by decide) (by decide) (by decide)
  · obtain ⟨i1, i2, ⟨i3, i4, i5, i6, i7⟩, i8, i9, i10, i11, i12, i13, i14⟩ := hIc
    unfold Ic
    rw [w130, w14, hW24 20 (by decide) (by decide), hW24 6 (by decide) (by decide), hM1 0 (by decide), hM1 1 (by decide), hM1 3 (by decide), hM1 6 (by decide)]
    exact ⟨i1, i2, ⟨i3, i4, c3, c1, i7⟩, i8, ⟨i9.1, c5⟩, ⟨c6, c7⟩, i11, ⟨c8, c9⟩, i13, fun z => absurd tl (by rw [z]; decide)⟩
  · unfold Ii
    rw [w130, hM1 4 (by decide), hM1 5 (by decide)]
    exact hIi
  · exact shI_cg ⟨hM1 3 (by decide), fun c hc => g c (by omega), rfl, rfl⟩ (fun c z1 z2 => ⟨g c (by omega), rfl⟩) h.2.2.2.1
  · exact Ig_cg (Inv_A h) (fun i hi => g _ (by omega)) (g _ (by omega)) (g _ (by omega)) (g _ (by omega)) (g _ (by omega)) h.2.2.2.2.2
  · rw [h0.2, hW24 12 (by decide) (by decide)]; exact h.2.2.1.2.2
theorem rIS_eq (h : Bs MI ML r S A Gn b K u bi bo w) : rIS MI x = inR x (nI S) ∧ rIA MI x = inR x (nI A) := by
  obtain ⟨h01, ht, ⟨-, hA, -⟩, ⟨s3, s4⟩, ⟨s1, s2⟩, -, -, -, -, h0⟩ := h.2.2.1
  unfold rIS rIA
  rw [s2, s4, ht]
  rcases h01 with z | z
  · obtain ⟨rfl, rfl, -⟩ := h0 z
    have d0 : decide (¬ MI 1 0 = 0) = false := decide_eq_false (fun q => q z)
    rw [d0, Bool.false_and]
    have := Bool.eq_false_iff.mpr (inR_0 (x := x))
    exact ⟨this.symm, this.symm⟩
  · have z1 : ¬ MI 1 0 = 0 := by rw [z]; decide
    have d0 : decide (¬ MI 1 0 = 0) = true := decide_eq_true z1
    rw [d0, Bool.true_and, Bool.true_and]
    exact ⟨rfl, rfl⟩
theorem told_S (h : Bs MI ML r S A Gn b K u bi bo w) (hS : 0 < S ∨ 0 < A) : MI 1 0 = 1 := h.2.2.1.1.resolve_left fun z => by
  have := h.2.2.1.2.2.2.2.2.2.2.2.2 z
  omega
theorem two_recode (hSt : x_St X) (hAA : x_AA X) (h : Inv MI ML MR r S A Gn b K u bi bo w) : Two X yX10_recode cX10_recode 4 (some .int) [.ref 0, .int x, .int y] yX11_recode cX11_recode 4 (some .int) [.ref 124, .int x, .int y] MI ML MR := by
  obtain ⟨hT, hIt, hIc, hIi, ⟨m1, m2⟩, hIa, hIv, -⟩ := id h.2.1
  have hS : S ≤ 6 := hIc.2.2.1.1
  have hA : A ≤ 8 := hIc.2.2.1.2.1
  have hK : K ≤ 12 := hIc.2.2.1.2.2.2.1
  have hB4 : inB y 0 3 = inR y 4 := inB_R (N := 3) (by decide)
  by_cases z : inR x (nI S) = true ∧ inR y 4 = true
  · obtain ⟨zx, zy⟩ := id z
    obtain ⟨s, hs, rfl⟩ := inR_ex (N := S) (by omega) (inR_t.mp zx).1 (inR_t.mp zx).2
    obtain ⟨yc, hyc, rfl⟩ := inR_ex (N := 4) (by decide) (inR_t.mp zy).1 (inR_t.mp zy).2
    have tl := told_S h.2.1 (Or.inl (by omega))
    refine ⟨_, _, ?_, c_X10_recode h.1.1 hSt hAA h.1.2 hK hIc.2.2.2.2.2.2.2.1.1 hS hIc.2.2.2.1.1 hA hIc.2.2.2.2.1.1 hs zy, fun r0 W B C hz => ?_⟩
    · decide
    obtain ⟨rfl, rfl, rfl, rfl⟩ := hz
    obtain ⟨M, hMd⟩ : ∃ M, M = rcM MI r K s (nI yc) := ⟨_, rfl⟩
    rw [← hMd]
    have hP12 : frP K < 12 := by unfold frP; split <;> omega
    have hr12 := h.1.2.2.1 (frP K) hP12
    have mo : ∀ q, q ≠ 2 → q ≠ 29 → q ≠ 31 + r (frP K) → M q = MI q := fun q z1 z2 z3 => by
      rw [hMd]
      unfold rcM frM
      rw [u2_row _ _ z1, u2_row _ _ z3, u2_row _ _ z2, u2_row _ _ z3, u2_row _ _ z3]
    obtain ⟨U, hU⟩ : ∃ U, U = ansM (saM M ML S A) 0 := ⟨_, rfl⟩
    rw [← hU]
    have uM : ∀ q, q ≠ 0 → q < 43 ∨ 123 < q → U q = M q := fun q z0 z1 => by
      rw [hU]
      unfold ansM
      rw [u2_row _ _ z0, sa_row (by omega)]
    have uI : ∀ q, q ≠ 0 → q ≠ 2 → q ≠ 29 → ¬ (31 ≤ q ∧ q ≤ 42) → q < 43 ∨ 123 < q → U q = MI q := fun q z0 z1 z2 z3 z4 => by rw [uM q z0 z4, mo q z1 z2 (by omega)]
    have eA : arR U = arR MI := by
      funext i j
      show U 128 _ = MI 128 _
      rw [uI 128 (by decide) (by decide) (by decide) (by omega) (by omega)]
    have hm := Bs_m h.2.1
    obtain ⟨W, hW⟩ : ∃ W, W = u2 (rmM (th U) K) 128 s (nI yc) := ⟨_, rfl⟩
    refine ⟨_, _, _, rfl, ?_, c_X11_recode (MI := U) (W := W) (frR_Lay h.1.1) hA hS (by rw [uI 130 (by decide) (by decide) (by decide) (by omega) (by omega)]; exact hIc.2.2.2.1.2) (by rw [uI 128 (by decide) (by decide) (by decide) (by omega) (by omega)]; exact hm.2.2.1) (by rw [eA]; exact hm.2.2.2.1) hm.2.2.2.2.1 (by rw [uI 130 (by decide) (by decide) (by decide) (by omega) (by omega)]; exact hm.2.2.2.2.2) hK (by rw [uI 124 (by decide) (by decide) (by decide) (by omega) (by omega)]; exact hIc.2.2.2.2.2.2.2.1.2) hs (by rw [uI 124 (by decide) (by decide) (by decide) (by omega) (by omega), hIc.2.1, tl]; decide) (by rw [hB4]; exact zy) hW, fun r2 W2 B2 C2 hy => ?_⟩
    · decide
    obtain ⟨rfl, rfl, rfl, rfl⟩ := hy
    refine ⟨?_, frG r K, S, A, Gn, b, frK K + 1, u, bi, bo, b, ?_⟩
    · rw [uI 128 (by decide) (by decide) (by decide) (by omega) (by omega), m2.2.2.1 s hs]
    have wo : ∀ q, q ≠ 124 → q ≠ 128 → q ≠ 132 → W q = U q := fun q z1 z2 z3 => by
      rw [hW]
      unfold rmM
      rw [u2_row _ _ z2, u2_row _ _ z1, sr_ne _ _ z3, th_b z1]
    have w128 : W 128 = up (MI 128) s (nI yc) := by
      funext j
      rw [hW]
      show u2 (rmM (th U) K) 128 s (nI yc) 128 j = if j = s then nI yc else MI 128 j
      unfold u2
      by_cases q : j = s
      · rw [if_pos ⟨rfl, q⟩, if_pos q]
      · rw [if_neg (fun z => q z.2), if_neg q]
        unfold rmM
        rw [u2_row _ _ (by decide), sr_ne _ _ (by decide), th_b (by decide), uI 128 (by decide) (by decide) (by decide) (by omega) (by omega)]
    have w132 : W 132 = rmP (MI 132) (MI 128) K := by
      rw [hW, u2_row _ _ (by decide)]
      unfold rmM
      rw [u2_row _ _ (by decide), sr_eq, th_b (by decide), th_b (by decide), uI 132 (by decide) (by decide) (by decide) (by omega) (by omega), uI 128 (by decide) (by decide) (by decide) (by omega) (by omega)]
    have wI : ∀ q, q ≠ 0 → q ≠ 2 → q ≠ 29 → ¬ (31 ≤ q ∧ q ≤ 42) → q < 43 → W q = MI q := fun q z0 z1 z2 z3 z4 => by rw [wo q (by omega) (by omega) (by omega), uI q z0 z1 z2 z3 (by omega)]
    have w2 : W 2 = up (MI 2) s (nI yc) := by
      rw [wo 2 (by decide) (by decide) (by decide), uM 2 (by decide) (by omega), hMd]
      funext j
      unfold rcM
      show u2 _ 2 s (nI yc) 2 j = if j = s then nI yc else MI 2 j
      unfold u2
      by_cases q : j = s
      · rw [if_pos ⟨rfl, q⟩, if_pos q]
      · rw [if_neg (fun z => q z.2), if_neg q, if_neg (by omega)]
        show frM MI (31 + r (frP K)) K 0 (nI s) 2 j = _
        unfold frM
        rw [u2_row _ _ (by decide), u2_row _ _ (by omega), u2_row _ _ (by omega)]
    have w12 : W 12 = MI 12 := wI 12 (by decide) (by decide) (by decide) (by omega) (by omega)
    have w13 : W 13 = MI 13 := wI 13 (by decide) (by decide) (by decide) (by omega) (by omega)
    have wA : PE (arP MI) (arP W) A := fun i hi j _ => by
      show MI (4 + i) j = W (4 + i) j
      rw [wI (4 + i) (by omega) (by omega) (by omega) (by omega) (by omega)]
    have wr : W (31 + r (frP K)) = M (31 + r (frP K)) := by rw [wo _ (by omega) (by omega) (by omega), uM _ (by omega) (by omega)]
    have mr : M (31 + r (frP K)) 0 = 0 ∧ M (31 + r (frP K)) 1 = nI s ∧ M (31 + r (frP K)) 2 = MI 2 s := by
      rw [hMd]
      unfold rcM frM
      refine ⟨?_, ?_, ?_⟩
      · rw [u2_ne _ _ (by omega), u2_ne _ _ (by omega), u2_ne _ _ (by omega), u2_ne _ _ (by omega)]; exact u2_eq _ _ _ _
      · rw [u2_ne _ _ (by omega), u2_ne _ _ (by omega), u2_ne _ _ (by omega)]; exact u2_eq _ _ _ _
      · rw [u2_ne _ _ (by omega)]; exact u2_eq _ _ _ _
    have m29 : M 29 2 = nI (frK K + 1) := by
      rw [hMd]
      unfold rcM frM
      rw [u2_ne _ _ (by omega), u2_ne _ _ (by omega)]; exact u2_eq _ _ _ _
    have w24 : ∀ j, j ≠ 0 → j ≠ 19 → W 124 j = U 124 j := fun j j0 j1 => by
      rw [hW, u2_row _ _ (by decide)]
      unfold rmM
      rw [u2_ne _ _ (by omega), sr_ne _ _ (by decide)]
      exact u2_ne _ _ (by omega)
    have w19 : W 124 19 = nI (frK K + 1) := by
      rw [hW, u2_row _ _ (by decide)]
      unfold rmM
      exact u2_eq _ _ _ _
    have hIm : Im W S A Gn := by
      have hE : lvE S A Gn (W 2) (W 2) (arP MI) (arP W) (MI 12) (W 12) (MI 13) (W 13) := ⟨fun _ _ => rfl, wA, fun g _ => by rw [w12], fun g _ => by rw [w13]⟩
      refine ⟨mV_E hE ⟨m1.1, m1.2.1, fun t ht => ?_, m1.2.2.2⟩, vR_E hE ?_⟩
      · rw [w2]
        by_cases q : t = s
        · rw [q, up_eq]; exact ⟨yc, hyc, rfl⟩
        · rw [up_ne _ _ q]; exact m1.2.2.1 t ht
      · rw [w128]
        refine ⟨?_, ?_, fun t ht => ?_, fun i hi j hj => ?_, fun g hg => ⟨?_, ?_⟩⟩
        · rw [up_ne _ _ (by omega)]; exact m2.1
        · rw [up_ne _ _ (by omega)]; exact m2.2.1
        · rw [w2]
          by_cases q : t = s
          · rw [q, up_eq, up_eq]
          · rw [up_ne _ _ q, up_ne _ _ q]; exact m2.2.2.1 t ht
        · rw [up_ne _ _ (by omega)]; exact m2.2.2.2.1 i hi j hj
        · rw [up_ne _ _ (by omega)]; exact (m2.2.2.2.2 g hg).1
        · rw [up_ne _ _ (by omega)]; exact (m2.2.2.2.2 g hg).2
    refine inv_act h tl ⟨frR_Lay h.1.1, frR_Rw h.1.2⟩ (fun q z1 z2 z3 z4 z5 => mo q z2 z4 (by omega)) (fun j _ _ => by rw [mo 1 (by decide) (by decide) (by omega)]) hU wo w24 ⟨⟨?_, hA, hIc.2.2.1.2.2.1⟩, ?_, ?_, ?_, ?_, m29, w19⟩ hIm ?_
    · unfold frK
      split <;> omega
    · rw [mo 1 (by decide) (by decide) (by omega)]; exact hIc.2.2.2.2.1.1
    · exact hIm.2.1
    · rw [mo 1 (by decide) (by decide) (by omega)]; exact hIc.2.2.2.2.2.1.1
    · exact hIm.2.2.1
    · refine Ia_new (A := A) (Gn := Gn) (MR := MR) hS hK h.1.2 hIa ⟨m1, m2⟩ (fun k hk hne => ?_) w132 (fun g _ => by rw [w12]) (fun g _ => by rw [w13]) (Or.inl ⟨?_, rfl, rfl, fun i hi j hj => (wA i hi j hj).symm, s, hs, ?_, ?_, fun j _ hj => ?_⟩)
      · have h12 := h.1.2.2.1 k hk
        have hne2 : r k ≠ r (frP K) := fun q => hne (h.1.2.2.2 k (frP K) hk hP12 q)
        rw [wo _ (by omega) (by omega) (by omega), uM _ (by omega) (by omega), mo _ (by omega) (by omega) (by omega)]
      · rw [wr]; exact mr.1
      · rw [wr]; exact mr.2.1
      · rw [wr]; exact mr.2.2.symm
      · rw [w2, up_ne _ _ hj]
  · have c10 := c_X10_recode_no (X := X) (n := 0) (ML := ML) h.1.1 hIc.2.2.2.1.1 z
    have eS := (rIS_eq (x := x) h.2.1).1
    have z2 : ¬ (rIS (th (ansM MI (if inR x (nI S) = true then 2 else 1))) x = true ∧ inB y 0 3 = true) := by
      rw [hB4, show rIS (th (ansM MI (if inR x (nI S) = true then 2 else 1))) x = rIS MI x from rfl, eS]
      exact z
    have c11 := c_X11_recode_no (X := X) (n := 0) (MI := ansM MI (if inR x (nI S) = true then 2 else 1)) (ML := ML) h.1.1 z2
    rw [show rIS (th (ansM MI (if inR x (nI S) = true then 2 else 1))) x = rIS MI x from rfl, eS] at c11
    refine two_an h (by decide) (by decide) c10 c11 rfl ?_
    (repeat' split) <;> first | exact (show ¬ (0 : Int32) = 4 by decide) | exact (show ¬ (1 : Int32) = 4 by decide) | exact (show ¬ (2 : Int32) = 4 by decide) | exact (show ¬ (3 : Int32) = 4 by decide) | exact (show ¬ (5 : Int32) = 4 by decide) | exact funTr_4 | exact fewTr_4
end act3

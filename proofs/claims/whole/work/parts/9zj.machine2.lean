/-! machine: class and reference agree -/
section mach2
variable {X : xG} {MI W U W2 V M : Mi} {ML B D : Nat → Nat → Int64} {MR MR2 : Nat → Nat → Option Nat} {r r2 : Nat → Nat} {S A Gn b K u bi bo w f A2 G2 K2 L a0 a1 : Nat} {x y : Int32}
theorem rQ_129 : rmV U B L a1 129 = (rmQ U B L a1).2 129 ∧ rmV U B L a1 131 = (rmQ U B L a1).2 131 := by
  refine ⟨?_, ?_⟩ <;> (funext j; unfold rmV laQ; rw [if_neg (by decide)])
/-- a text with a FAULT -/
theorem mach_no (h : Inv MI ML MR r S A Gn b K u bi bo w) (hU : U = ansM (mcM MI L a0) 4) (hf : FL (rdQ MI L a0).1 (rmQ U ML L a1).1) : Inv (u2 (u2 (rmV U ML L a1) 124 1 4) 124 2 (rmV U ML L a1 124 10)) (rmE ML U L a1) MR r S A Gn b K 0 bi bo w := by
  obtain ⟨hT, hIt, hIc, h3⟩ := id h.2.1
  obtain ⟨W, hW⟩ : ∃ W, W = u2 (u2 (rmV U ML L a1) 124 1 4) 124 2 (rmV U ML L a1 124 10) := ⟨_, rfl⟩
  have wU : ∀ q, q ≠ 124 → q ≠ 129 → q ≠ 131 → W q = U q := fun q z1 z2 z3 => by rw [hW, u2_row _ _ z1, u2_row _ _ z1, rm_o z1 z2 z3]
  have uM : ∀ q, q ≠ 0 → U q = mcM MI L a0 q := fun q z => by
    rw [hU]
    unfold ansM
    rw [u2_row _ _ z]
  have wI : ∀ q, q ≠ 0 → q < 14 ∨ q = 15 ∨ 28 < q → q ≠ 124 → q ≠ 129 → q ≠ 131 → W q = MI q := fun q z0 z1 z2 z3 z4 => by rw [wU q z2 z3 z4, uM q z0, mc_o z0 z1]
  have w24 : ∀ j, 13 ≤ j → j ≠ 21 → j ≠ 22 → W 124 j = MI 124 j := fun j z1 z2 z3 => by
    rw [hW, u2_ne _ _ (by omega), u2_ne _ _ (by omega), rm_24 ⟨by omega, by omega, by omega, by omega, by omega, z2, z3⟩ (by omega) (by omega) (by omega), uM 124 (by decide), mc_o (by decide) (by omega)]
  have w14 : W 14 1 = 0 ∧ W 14 4 = (rdQ MI L a0).1.2.1 := by
    rw [wU 14 (by decide) (by decide) (by decide), uM 14 (by decide)]
    exact mc_14
  have w6 : W 124 6 = 0 := by rw [hW, u2_ne _ _ (by omega), u2_ne _ _ (by omega)]; exact rm_6
  have w0 : W 0 8 = 4 ∧ W 0 9 = (rdQ MI L a0).1.1 := by
    rw [wU 0 (by decide) (by decide) (by decide), hU]
    unfold ansM
    refine ⟨u2_eq _ _ _ _, ?_⟩
    rw [u2_ne _ _ (by omega)]
    exact mc_09
  have w12 : W 124 12 = (rmQ U ML L a1).1.1 := by rw [hW, u2_ne _ _ (by omega), u2_ne _ _ (by omega)]; exact rm_12.1
  have w1 : W 124 1 = 4 := by rw [hW, u2_ne _ _ (by omega)]; exact u2_eq _ _ _ _
  have w2 : W 124 2 = nI (rmQ U ML L a1).1.2.1 := by rw [hW, u2_eq]; exact rm_12.2
  have eB : ∀ c, c ≠ 124 → rmE ML U L a1 c = ML c := fun c z => rmE_o z
  rw [← hW]
  refine ⟨h.1, ⟨⟨?_, ?_, ?_⟩, ⟨by decide, w14.1, w6, ?_, ?_⟩, ?_, ?_⟩, ⟨?_, ?_, ?_⟩, ?_, ?_, ?_⟩
  · rw [eB 58 (by decide)]; exact hT.1
  · rw [eB 125 (by decide)]; exact hT.2.1
  · unfold muOK
    rw [wI 126 (by decide) (by omega) (by decide) (by decide) (by decide)]
    exact hT.2.2
  · rw [wI 15 (by decide) (by omega) (by decide) (by decide) (by decide), wI 127 (by decide) (by omega) (by decide) (by decide) (by decide)]
    exact hIt.2.2.2.1
  · rw [wI 15 (by decide) (by omega) (by decide) (by decide) (by decide)]
    exact hIt.2.2.2.2
  · obtain ⟨i1, i2, ⟨i3, i4, i5, i6, i7⟩, i8, i9, i10, i11, i12, i13, i14⟩ := hIc
    unfold Ic
    rw [wI 1 (by decide) (by omega) (by decide) (by decide) (by decide), wI 128 (by decide) (by omega) (by decide) (by decide) (by decide), wI 130 (by decide) (by omega) (by decide) (by decide) (by decide), wI 29 (by decide) (by omega) (by decide) (by decide) (by decide), w24 20 (by omega) (by omega) (by omega), w24 19 (by omega) (by omega) (by omega)]
    exact ⟨i1, i2, ⟨i3, i4, i5, i6, by decide⟩, i8, i9, i10, i11, i12, ⟨w14.1, w6⟩, i14⟩
  · exact B3_Fr2 h.1.2.2.1 hIc.2.2.1.2.1 hIc.2.2.1.2.2.2.1 hIc.2.2.1.1 (fun c z1 z2 z3 => wI c (by omega) (by omega) (by omega) (by omega) (by omega)) (fun c hc => wI c (by omega) (by omega) (by omega) (by omega) (by omega)) (wI 85 (by decide) (by omega) (by decide) (by decide) (by decide)) (fun j hj => w24 j (by omega) (by omega) (by omega)) (fun c hc => eB c (by omega)) h3
  · rw [w0.1, w1]
  · rw [w0.1, if_pos rfl, w14.2, w2, hf.2.2.1]
  · rw [w0.2, w12, hf.1]
  · refine shI_cg ⟨?_, fun c hc => wI c (by omega) (by omega) (by omega) (by omega) (by omega), eB 49 (by decide), eB 58 (by decide)⟩ (fun c z1 z2 => ⟨wI c (by omega) (by omega) (by omega) (by omega) (by omega), eB c (by omega)⟩) h.2.2.2.1
    rw [wI 1 (by decide) (by omega) (by decide) (by decide) (by decide)]
  · exact rCc_cg (wI _ (by decide) (by omega) (by decide) (by decide) (by decide)) (wI _ (by decide) (by omega) (by decide) (by decide) (by decide)) (wI _ (by decide) (by omega) (by decide) (by decide) (by decide)) (eB _ (by decide)) (eB _ (by decide)) (rCc_U (fun c z1 z2 => wI c (by omega) (by omega) (by omega) (by omega) (by omega)) h.2.2.2.2.1)
  · exact Ig_cg (Inv_A h) (fun i hi => wI _ (by omega) (by omega) (by omega) (by omega) (by omega)) (wI _ (by decide) (by omega) (by decide) (by decide) (by decide)) (wI _ (by decide) (by omega) (by decide) (by decide) (by decide)) (wI _ (by decide) (by omega) (by decide) (by decide) (by decide)) (wI _ (by decide) (by omega) (by decide) (by decide) (by decide)) h.2.2.2.2.2
/-- a text without: the machine told, looked at by the class -/
theorem mach_ok {S' A' G' : Nat} (h : Inv MI ML MR r S A Gn b K u bi bo w) (hM : M = mcN MI L a0) (hU : U = ansM (saM M ML S' A') 0) (hB : B = saL M ML S' A') (e0 : (rdQ MI L a0).1.1 = 0) (e1 : (rmQ U B L a1).1.1 = 0) (hR : dRl (rdQ MI L a0).2 (rmQ U B L a1).2 S' A' G') (h160 : (rdQ MI L a0).2 16 0 = 1) : ∃ b' bi' bo', (A' ≤ 8 ∧ S' ≤ 6 ∧ rmN U B L a1 130 0 = nI S' ∧ rmN U B L a1 128 6 = nI A' ∧ okA (arR (rmN U B L a1)) A' S' ∧ b' < 6 ∧ rmN U B L a1 130 1 = nI b') ∧ Inv (rfM (lkoM (rmN U B L a1) (rmE B U L a1) S' A' b') 0) (lkoL (rmN U B L a1) (rmE B U L a1) S' A' b') MR r S' A' G' b' 0 0 bi' bo' b' := by
  obtain ⟨hT, hIt, hIc, h3⟩ := id h.2.1
  obtain ⟨⟨l1, l2, l3⟩, ⟨d1, d2, d3, d4, d5, d6⟩, dC, dA, dG, dB⟩ := hR
  obtain ⟨b', bi', bo', hb, hbi, hbo, b1, b2, b3, b4, b5, b6⟩ : ∃ b i o, b < S' ∧ i < 16 ∧ o < 8 ∧ (rdQ MI L a0).2 16 3 = nI b ∧ (rmQ U B L a1).2 131 1 = nI b ∧ (rdQ MI L a0).2 16 4 = nI i ∧ (rmQ U B L a1).2 131 2 = nI i ∧ (rdQ MI L a0).2 16 5 = nI o ∧ (rmQ U B L a1).2 131 3 = nI o := by
    rcases dB with ⟨z, -⟩ | ⟨-, z⟩
    · rw [h160] at z; exact absurd z (by decide)
    · exact z
  obtain ⟨W, hW⟩ : ∃ W, W = rmN U B L a1 := ⟨_, rfl⟩
  have w128 : ∀ j, j < 88 → W 128 j = (rmQ U B L a1).2 129 j := fun j hj => by
    rw [hW]
    unfold rmN
    rw [u2_row _ _ (by decide), u2_row _ _ (by decide), sr_ne _ _ (by decide), sr_eq]
    unfold copyTo
    rw [if_pos hj, rQ_129.1]
  have w130 : ∀ j, j < 4 → W 130 j = (rmQ U B L a1).2 131 j := fun j hj => by
    rw [hW]
    unfold rmN
    rw [u2_row _ _ (by decide), u2_row _ _ (by decide), sr_eq]
    unfold copyTo
    rw [if_pos hj, rQ_129.2]
  have wV : ∀ q, q ≠ 124 → q ≠ 128 → q ≠ 130 → W q = rmV U B L a1 q := fun q z1 z2 z3 => by
    rw [hW]
    unfold rmN
    rw [u2_row _ _ z1, u2_row _ _ z1, sr_ne _ _ z3, sr_ne _ _ z2]
  have wj : ∀ j, j ≠ 20 → j ≠ 19 → W 124 j = rmV U B L a1 124 j := fun j z1 z2 => by
    rw [hW]
    unfold rmN
    rw [u2_ne _ _ (by omega), u2_ne _ _ (by omega), sr_ne _ _ (by decide), sr_ne _ _ (by decide)]
  have w20 : W 124 20 = 1 ∧ W 124 19 = 0 := by
    rw [hW]
    unfold rmN
    refine ⟨?_, u2_eq _ _ _ _⟩
    rw [u2_ne _ _ (by omega)]; exact u2_eq _ _ _ _
  have wU : ∀ q, q < 124 → W q = U q := fun q z => by rw [wV q (by omega) (by omega) (by omega), rm_o (by omega) (by omega) (by omega)]
  have uS : ∀ q, q ≠ 0 → U q = saM M ML S' A' q := fun q z => by
    rw [hU]
    unfold ansM
    rw [u2_row _ _ z]
  have uM : ∀ q, q ≠ 0 → q < 43 ∨ 123 < q → U q = M q := fun q z0 z1 => by rw [uS q z0, sa_row (by omega)]
  have mT : ∀ q, q ≠ 29 → M q = tkG (mcM MI L a0) 16 q := fun q z => by
    rw [hM]
    unfold mcN
    rw [u2_row _ _ z]
  have mI : ∀ q, q ≠ 0 → q = 15 ∨ 29 < q → M q = MI q := fun q z0 z1 => by rw [mT q (by omega), tk_o (by omega), mc_o z0 (by omega)]
  have m1 : ∀ j, j = 0 ∨ j = 1 ∨ j = 3 ∨ j = 4 ∨ j = 5 ∨ j = 6 ∨ j = 8 → M 1 j = (rdQ MI L a0).2 16 j := fun j hj => by rw [mT 1 (by decide), tk_1 hj, mc_row (by decide) (by decide)]
  have w1 : ∀ j, j = 0 ∨ j = 1 ∨ j = 3 ∨ j = 4 ∨ j = 5 ∨ j = 6 ∨ j = 8 → W 1 j = (rdQ MI L a0).2 16 j := fun j hj => by rw [wU 1 (by decide), uM 1 (by decide) (by omega), m1 j hj]
  have w2 : ∀ j, j < 6 → W 2 j = (rdQ MI L a0).2 17 j := fun j hj => by rw [wU 2 (by decide), uM 2 (by decide) (by omega), mT 2 (by decide), tk_2 hj, mc_row (by decide) (by decide)]
  have w4 : ∀ i j, i < 8 → j < 6 → W (4 + i) j = (rdQ MI L a0).2 (19 + i) j := fun i j hi hj => by rw [wU (4 + i) (by omega), uM (4 + i) (by omega) (by omega), mT (4 + i) (by omega), tk_4 hi hj, mc_row (by omega) (by omega)]
  have w12 : ∀ j, j < 16 → W 12 j = (rdQ MI L a0).2 27 j ∧ W 13 j = (rdQ MI L a0).2 28 j := fun j hj => by
    rw [wU 12 (by decide), uM 12 (by decide) (by omega), mT 12 (by decide), wU 13 (by decide), uM 13 (by decide) (by omega), mT 13 (by decide), (tk_12 hj).1, (tk_12 hj).2, mc_row (by decide) (by decide), mc_row (by decide) (by decide)]
    exact ⟨rfl, rfl⟩
  have eL : ∀ c, c ≠ 49 → c ≠ 50 → c ≠ 124 → rmE B U L a1 c = ML c := fun c z1 z2 z3 => by
    rw [rmE_o z3, hB]
    unfold saL layD
    rw [sr_ne _ _ z2, sr_ne _ _ z1]
  have wI2 : ∀ q, 124 < q → q ≠ 128 → q ≠ 129 → q ≠ 130 → q ≠ 131 → W q = MI q := fun q z1 z2 z3 z4 z5 => by rw [wV q (by omega) z2 z4, rm_o (by omega) z3 z5, uM q (by omega) (by omega), mI q (by omega) (by omega)]
  have w14 : W 14 1 = 0 := by rw [wU 14 (by decide), uM 14 (by decide) (by omega), mT 14 (by decide), tk_o (by omega)]; exact mc_14.1
  have w6 : W 124 6 = 0 := by rw [wj 6 (by decide) (by decide)]; exact rm_6
  have w29 : W 29 2 = 0 := by
    rw [wU 29 (by decide), uM 29 (by decide) (by omega), hM]
    unfold mcN
    exact u2_eq _ _ _ _
  have w15 : W 15 = MI 15 := by rw [wU 15 (by decide), uM 15 (by decide) (by omega), mI 15 (by decide) (by omega)]
  have u0 : U 0 8 = 0 ∧ U 0 9 = 0 := by
    rw [hU]
    unfold ansM
    refine ⟨u2_eq _ _ _ _, ?_⟩
    rw [u2_ne _ _ (by omega), sa_row (by omega), mT 0 (by decide), tk_o (by omega), mc_09, e0]
  have hIm : Im W S' A' G' := by
    refine ⟨⟨l2, l3, fun s hs => ?_, fun i hi => ?_, fun g hg => ?_⟩, ?_, ?_, fun s hs => ?_, fun i hi j hj => ?_, fun g hg => ?_⟩
    · obtain ⟨c, hc, q1, q2⟩ := dC s hs
      exact ⟨c, hc, by rw [w2 s (by omega)]; exact q1⟩
    · obtain ⟨f, g, u0, v0, o0, p0, a1, a2, a3, a4, a5, a6, q0, q1, q2, q3, q4, q5, -⟩ := dA i hi
      have e : ∀ j, j < 6 → arP W i j = (rdQ MI L a0).2 (19 + i) j := fun j hj => w4 i j (by omega) hj
      exact ⟨f, g, u0, v0, o0, p0, a1, a2, a3, a4, a5, a6, (e 0 (by decide)).trans q0, (e 1 (by decide)).trans q1, (e 2 (by decide)).trans q2, (e 3 (by decide)).trans q3, (e 4 (by decide)).trans q4, (e 5 (by decide)).trans q5⟩
    · obtain ⟨f, c, hf, hc, q1, q2, q3, q4⟩ := dG g hg
      exact ⟨f, c, hf, hc, by rw [(w12 g (by omega)).1]; exact q1, by rw [(w12 g (by omega)).2]; exact q2⟩
    · rw [w128 6 (by decide)]; exact d4
    · rw [w128 55 (by decide)]; exact d6
    · obtain ⟨c, hc, q1, q2⟩ := dC s hs
      rw [w128 s (by omega), w2 s (by omega), q1, q2]
    · obtain ⟨f, g, u0, v0, o0, p0, a1, a2, a3, a4, a5, a6, q0, q1, q2, q3, q4, q5, q6⟩ := dA i hi
      rw [w128 _ (by omega)]
      show _ = W (4 + i) j
      rw [w4 i j (by omega) hj]
      exact q6 j hj
    · obtain ⟨f, c, hf, hc, q1, q2, q3, q4⟩ := dG g hg
      rw [w128 _ (by omega), w128 _ (by omega), (w12 g (by omega)).1, (w12 g (by omega)).2, q1, q2, q3, q4]
      exact ⟨rfl, rfl⟩
  refine ⟨b', bi', bo', ⟨l2, l1, ?_, ?_, ?_, by omega, ?_⟩, ?_⟩
  · rw [← hW, w130 0 (by decide)]; exact d2
  · rw [← hW]; exact hIm.2.1
  · rw [← hW]; exact okA_PE (arcs_ok hIm.1.2.2.2.1).1 (vR_PE hIm.2)
  · rw [← hW, w130 1 (by decide)]; exact b2
  rw [← hW]
  have hSh : shI (saM M ML S' A') B A' := sa_shI (fun f hf => by
    rw [mI (89 + 7 * f) (by omega) (by omega)]
    exact (h.2.2.2.1 f hf).1)
  refine inv_ref h.1 ⟨?_, ?_, ?_⟩ ⟨by decide, w14, w6, ?_, ?_⟩ ⟨Or.inr ?_, ?_, ⟨l1, l2, l3, by decide, by decide⟩, ⟨?_, ?_⟩, ⟨?_, ?_⟩, ⟨?_, ?_⟩, ⟨?_, ?_⟩, ⟨w29, w20.2⟩, ⟨w14, w6⟩, fun z => ?_⟩ ⟨⟨hbi, hbo⟩, ⟨?_, ?_⟩, ?_, ?_⟩ hIm trivial (LkC_cg (U := saM M ML S' A') (B := saL M ML S' A') (fun q hq => ?_) ?_ ?_ (lk_cls hb l2 ?_ ?_ ?_)) ?_ (Ig_0 ?_) ⟨?_, ?_⟩ ?_ ?_
  · rw [eL 58 (by decide) (by decide) (by decide)]; exact hT.1
  · rw [eL 125 (by decide) (by decide) (by decide)]; exact hT.2.1
  · unfold muOK
    rw [wI2 126 (by decide) (by decide) (by decide) (by decide) (by decide)]
    exact hT.2.2
  · rw [w15, wI2 127 (by decide) (by decide) (by decide) (by decide) (by decide)]; exact hIt.2.2.2.1
  · rw [w15]; exact hIt.2.2.2.2
  · rw [w1 0 (by omega)]; exact h160
  · rw [w20.1, w1 0 (by omega), h160]
  · rw [w1 1 (by omega)]; exact d1
  · rw [w130 0 (by decide)]; exact d2
  · rw [w1 6 (by omega)]; exact d3
  · exact hIm.2.1
  · rw [w1 8 (by omega)]; exact d5
  · exact hIm.2.2.1
  · rw [w1 3 (by omega)]; exact b1
  · rw [w130 1 (by decide)]; exact b2
  · rw [w1 0 (by omega), h160] at z; exact absurd z (by decide)
  · rw [w1 4 (by omega)]; exact b3
  · rw [w130 2 (by decide)]; exact b4
  · rw [w1 5 (by omega)]; exact b5
  · rw [w130 3 (by decide)]; exact b6
  · rw [wU q (by omega), uS q (by omega)]
  · rw [rmE_o (by decide), hB]
  · rw [rmE_o (by decide), hB]
  · rw [m1 3 (by omega)]; exact b1
  · rw [m1 4 (by omega)]; exact b3
  · rw [m1 5 (by omega)]; exact b5
  · refine shI_cg ⟨?_, fun c hc => ?_, rmE_o (by decide), rmE_o (by decide)⟩ (fun c z1 z2 => ⟨?_, rmE_o (by omega)⟩) hSh
    · rw [wU 1 (by decide), uS 1 (by decide)]
    · rw [wU c (by omega), uS c (by omega)]
    · rw [wU c (by omega), uS c (by omega)]
  · rw [wU 60 (by decide), uS 60 (by decide)]; exact sa_60
  · rw [wU 85 (by decide), uS 85 (by decide), sa_85.1, m1 3 (by omega)]; exact b1
  · rw [wU 85 (by decide), uS 85 (by decide)]; exact sa_85.2
  · rw [wU 0 (by decide)]; exact u0.1
  · rw [wU 0 (by decide), u0.2, wj 12 (by decide) (by decide), rm_12.1, e1]
theorem two_machine (hSt : x_St X) (hS2 : x_S2 X) (h : Inv MI ML MR r S A Gn b K u bi bo w) : Two X yX10_machine cX10_machine 3 (some .int) [.ref 0, .int x] yX11_machine cX11_machine 3 (some .int) [.ref 124, .int x] MI ML MR := by
  obtain ⟨hT, hIt, hIc, h3⟩ := id h.2.1
  have hur := hIc.2.2.2.2.2.2.2.2.1
  have hu6 : u ≤ 600 := hIt.1
  by_cases z : x < 0 ∨ ¬ x ≤ MI 14 1
  · have c10 := c_X10_machine_no (X := X) (n := 0) (ML := ML) h.1.1 z
    have z2 : x < 0 ∨ ¬ x ≤ ansM MI 2 124 6 := by
      show x < 0 ∨ ¬ x ≤ MI 124 6
      rw [hur.2, ← hur.1]
      exact z
    have c11 := c_X11_machine_no (X := X) (n := 0) (MI := ansM MI 2) (ML := ML) h.1.1 z2
    exact two_an h (by decide) (by decide) c10 c11 rfl (by decide)
  · have zx : inB x 0 (nI u) = true := by
      unfold inB
      refine decide_eq_true ⟨fun q => z (Or.inl q), fun q => z (Or.inr ?_)⟩
      rw [hur.1]
      exact Int32.not_le.mpr q
    obtain ⟨L, hL, rfl⟩ := inB_ex (N := u) (by omega) zx
    have hLu : nI L ≤ nI u := nI_le (by omega) (by omega)
    obtain ⟨a0, ha⟩ := nI_sur (MI 14 7)
    obtain ⟨⟨g1, g2⟩, ⟨g3, g4⟩, -, g8⟩ := rdQ_df (MI := MI) (L := L) (a0 := a0)
    have e16 : mcM MI L a0 16 = (rdQ MI L a0).2 16 := mc_row (by decide) (by decide)
    have c10 := c_X10_machine (X := X) (n := 0) (ML := ML) h.1.1 hSt hS2 (L := L) (a0 := a0) (by omega) (by rw [hur.1]; exact hLu) ha (S := cS (rdQ MI L a0).2) (A := cA (rdQ MI L a0).2) g1 g3 (by rw [e16]; exact g8) (by rw [e16]; exact g2) (by rw [e16]; exact g4)
    refine ⟨_, _, ?_, c10, fun r0 W B C hz => ?_⟩
    · decide
    obtain ⟨rfl, rfl, rfl, rfl⟩ := hz
    by_cases e0 : (rdQ MI L a0).1.1 = 0
    · rw [if_pos e0, if_pos e0, if_pos e0]
      obtain ⟨M, hM⟩ : ∃ M, M = mcN MI L a0 := ⟨_, rfl⟩
      obtain ⟨S', hS'⟩ : ∃ S', S' = cS (rdQ MI L a0).2 := ⟨_, rfl⟩
      obtain ⟨A', hA'⟩ : ∃ A', A' = cA (rdQ MI L a0).2 := ⟨_, rfl⟩
      rw [← hM, ← hS', ← hA']
      rw [← hS'] at g1 g2
      rw [← hA'] at g3 g4
      obtain ⟨U, hU⟩ : ∃ U, U = ansM (saM M ML S' A') 0 := ⟨_, rfl⟩
      obtain ⟨B, hB⟩ : ∃ B, B = saL M ML S' A' := ⟨_, rfl⟩
      rw [← hU, ← hB]
      have uI : ∀ q, q = 124 ∨ q = 127 → U q = MI q := fun q hq => by
        rw [hU]
        unfold ansM
        rw [u2_row _ _ (by omega), sa_row (by omega), hM]
        unfold mcN
        rw [u2_row _ _ (by omega), tk_o (by omega), mc_o (by omega) (by omega)]
      obtain ⟨a1, ha1⟩ := nI_sur (U 124 10)
      rcases mach_E (MI := MI) (U := U) (B := B) (L := L) (a0 := a0) (a1 := a1) hIt (uI 127 (by omega)) with ⟨-, er, ⟨S2, A2, G', hR⟩, h160⟩ | hf
      · have eS : S2 = S' := by
          have q := congrArg Int32.toNatClampNeg (hR.2.1.1.symm.trans g2)
          have := hR.1.1
          rwa [nI_clamp (by omega), nI_clamp (by omega)] at q
        have eA : A2 = A' := by
          have q := congrArg Int32.toNatClampNeg (hR.2.1.2.2.1.symm.trans g4)
          have := hR.1.2.1
          rwa [nI_clamp (by omega), nI_clamp (by omega)] at q
        subst eS
        subst eA
        obtain ⟨b', bi', bo', hok, hI⟩ := mach_ok h hM hU hB e0 er hR h160
        obtain ⟨V2, hV2⟩ : ∃ V2, V2 = rmV U B L a1 := ⟨_, rfl⟩
        obtain ⟨W3, hW3⟩ : ∃ W3, W3 = rmN U B L a1 := ⟨_, rfl⟩
        obtain ⟨E3, hE3⟩ : ∃ E3, E3 = rmE B U L a1 := ⟨_, rfl⟩
        rw [← hW3] at hok hI
        rw [← hE3] at hI
        have v12 : ¬ 0 < V2 124 12 := by rw [hV2, rm_12.1, er]; decide
        refine ⟨_, _, _, rfl, ?_, c_X11_machine (MI := U) (ML := B) h.1.1 hS2 (L := L) (a0 := a1) (by omega) (by rw [uI 124 (by omega), hur.2]; exact hLu) ha1 hV2 hW3 hE3 (A := A2) (S := S2) (b := b') (fun _ => hok), fun r2 W2 B2 C2 hy => ?_⟩
        · decide
        obtain ⟨rfl, rfl, rfl, rfl⟩ := hy
        rw [if_neg v12, if_neg v12, if_neg v12]
        exact ⟨rfl, r, S2, A2, G', b', 0, 0, bi', bo', b', hI⟩
      · obtain ⟨q1, q2, -⟩ := hf
        rw [← q1, e0] at q2
        exact absurd q2 (by decide)
    · rw [if_neg e0, if_neg e0, if_neg e0]
      obtain ⟨U, hU⟩ : ∃ U, U = ansM (mcM MI L a0) 4 := ⟨_, rfl⟩
      rw [← hU]
      have uI : ∀ q, q = 124 ∨ q = 127 → U q = MI q := fun q hq => by
        rw [hU]
        unfold ansM
        rw [u2_row _ _ (by omega), mc_o (by omega) (by omega)]
      obtain ⟨a1, ha1⟩ := nI_sur (U 124 10)
      rcases mach_E (MI := MI) (U := U) (B := ML) (L := L) (a0 := a0) (a1 := a1) hIt (uI 127 (by omega)) with ⟨q, -⟩ | hf
      · exact absurd q e0
      · have hI := mach_no h hU hf
        obtain ⟨V2, hV2⟩ : ∃ V2, V2 = rmV U ML L a1 := ⟨_, rfl⟩
        obtain ⟨W3, hW3⟩ : ∃ W3, W3 = rmN U ML L a1 := ⟨_, rfl⟩
        obtain ⟨E3, hE3⟩ : ∃ E3, E3 = rmE ML U L a1 := ⟨_, rfl⟩
        rw [← hV2, ← hE3] at hI
        have v12 : 0 < V2 124 12 := by rw [hV2, rm_12.1]; exact hf.2.1
        refine ⟨_, _, _, rfl, ?_, c_X11_machine (MI := U) (ML := ML) h.1.1 hS2 (L := L) (a0 := a1) (by omega) (by rw [uI 124 (by omega), hur.2]; exact hLu) ha1 hV2 hW3 hE3 (A := 0) (S := 0) (b := 0) (fun q => absurd v12 q), fun r2 W2 B2 C2 hy => ?_⟩
        · decide
        obtain ⟨rfl, rfl, rfl, rfl⟩ := hy
        rw [if_pos v12, if_pos v12, if_pos v12]
        exact ⟨rfl, r, S, A, Gn, b, K, 0, bi, bo, w, hI⟩
end mach2

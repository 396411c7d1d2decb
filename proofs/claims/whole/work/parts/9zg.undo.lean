/-! undo -/
section und
variable {X : xG} {MI W U W2 V M : Mi} {ML B D : Nat → Nat → Int64} {MR MR2 : Nat → Nat → Option Nat} {r r2 : Nat → Nat} {S A Gn b K u bi bo w f A2 G2 K2 : Nat} {x y : Int32}
theorem und_use {K1 : Nat} {C' : Nat → Int32} {P' : Nat → Nat → Int32} (hS : S ≤ 6) (hK1 : K1 < 12) (hl : lvE S A2 G2 C' (W 2) P' (arP W) (MI 12) (W 12) (MI 13) (W 13)) (hv : vR S A2 G2 C' P' (MI 12) (MI 13) (fun j => MI 132 (88 * K1 + j))) (hm : mV S A2 G2 C' P' (MI 12) (MI 13)) (hc : Ch S (MI 12) (MI 13) K1 (fun k => MI (31 + r k)) (fun k j => MI 132 (88 * k + j)) C' P' A2 G2) (h128 : ∀ j, j < 88 → W 128 j = MI 132 (88 * K1 + j)) (h132 : W 132 = MI 132) (hrow : ∀ k, k < 12 → W (31 + r k) = MI (31 + r k)) : Im W S A2 G2 ∧ Ia W r S A2 G2 K1 := by
  have hA := hm.1
  have hG := hm.2.1
  refine ⟨⟨mV_E hl hm, ?_⟩, ?_⟩
  · obtain ⟨q1, q2, q3, q4, q5⟩ := vR_E hl hv
    refine ⟨?_, ?_, fun s hs => ?_, fun i hi j hj => ?_, fun g hg => ⟨?_, ?_⟩⟩
    · rw [h128 6 (by decide)]; exact q1
    · rw [h128 55 (by decide)]; exact q2
    · rw [h128 s (by omega)]; exact q3 s hs
    · rw [h128 _ (by omega)]; exact q4 i hi j hj
    · rw [h128 _ (by omega)]; exact (q5 g hg).1
    · rw [h128 _ (by omega)]; exact (q5 g hg).2
  · refine Ch_cg K1 _ _ _ _ _ _ _ _ A2 G2 (fun k hk => ⟨fun j _ => ?_, fun j _ => ?_⟩) hl hS hc
    · rw [hrow k (by omega)]
    · show MI 132 _ = W 132 _
      rw [h132]
theorem two_undo (hSt : x_St X) (h : Inv MI ML MR r S A Gn b K u bi bo w) : Two X yX10_undo cX10_undo 1 (some .boolean) [.ref 0] yX11_undo cX11_undo 2 (some .boolean) [.ref 124] MI ML MR := by
  obtain ⟨hT, hIt, hIc, hIi, ⟨m1, m2⟩, hIa, hIv, -⟩ := id h.2.1
  have hS : S ≤ 6 := hIc.2.2.1.1
  have hA : A ≤ 8 := hIc.2.2.1.2.1
  have hG : Gn ≤ 16 := hIc.2.2.1.2.2.1
  have hK : K ≤ 12 := hIc.2.2.1.2.2.2.1
  have hKr := hIc.2.2.2.2.2.2.2.1
  have hGr := hIc.2.2.2.2.2.1
  have hAr := hIc.2.2.2.2.1
  have hm := Bs_m h.2.1
  rcases Nat.eq_zero_or_pos K with z | hK0
  · have k0 : MI 29 2 = 0 := by rw [hKr.1, z]; rfl
    have k1 : ansM MI 1 124 20 = 0 ∨ ansM MI 1 124 19 = 0 := Or.inr (by
      show MI 124 19 = 0
      rw [hKr.2, z]; rfl)
    have c10 := c_X10_undo_no (X := X) (n := 0) (ML := ML) h.1.1 k0
    have c11 := c_X11_undo_no (X := X) (n := 0) (MI := ansM MI 1) (ML := ML) h.1.1 k1
    exact two_an h (by decide) (by decide) c10 c11 rfl (by decide)
  · obtain ⟨K1, rfl⟩ : ∃ K1, K = K1 + 1 := ⟨K - 1, by omega⟩
    have tl : MI 1 0 = 1 := hIc.1.resolve_left fun z => by
      have := (hIc.2.2.2.2.2.2.2.2.2 z).2.2.2.2
      omega
    have n20 : ¬ MI 124 20 = 0 := by rw [hIc.2.1, tl]; decide
    obtain ⟨C', P', A', G', hU0, hv, hmv, hch⟩ := hIa
    have hr12 := h.1.2.2.1 K1 (by omega)
    have hA' := hmv.1
    have hG' := hmv.2.1
    obtain ⟨s, r0, hs0, hs1, hs2⟩ : ∃ s r0, (MI (31 + r K1) 0 = 0 → s < 6 ∧ MI (31 + r K1) 1 = nI s) ∧ (MI (31 + r K1) 0 = 1 → A ≤ 7 ∧ r0 ≤ A ∧ MI (31 + r K1) 1 = nI r0) ∧ (¬ MI (31 + r K1) 0 = 0 → ¬ MI (31 + r K1) 0 = 1 → 0 < Gn ∧ MI 1 8 = nI Gn) := by
      rcases hU0 with ⟨e0, -, -, -, s, e1, e2, -⟩ | ⟨e0, -, -, -, e1, r0, e2, e3, -⟩ | ⟨e0, -, e1, -⟩
      · have e0' : MI (31 + r K1) 0 = 0 := e0
        exact ⟨s, 0, fun _ => ⟨by omega, e2⟩, fun q => absurd (e0'.symm.trans q) (by decide), fun q => absurd e0' q⟩
      · have e0' : MI (31 + r K1) 0 = 1 := e0
        exact ⟨0, r0, fun q => absurd (e0'.symm.trans q) (by decide), fun _ => ⟨e1, e2, e3⟩, fun _ q => absurd e0' q⟩
      · have e0' : MI (31 + r K1) 0 = 2 := e0
        exact ⟨0, 0, fun q => absurd (e0'.symm.trans q) (by decide), fun q => absurd (e0'.symm.trans q) (by decide), fun _ _ => ⟨by omega, hGr.1⟩⟩
    obtain ⟨V, hV⟩ : ∃ V, V = tbR MI (31 + r K1) (K1 + 1) s r0 A Gn := ⟨_, rfl⟩
    obtain ⟨Ax, hAx⟩ : ∃ Ax, Ax = if MI (31 + r K1) 0 = 1 then A + 1 else A := ⟨_, rfl⟩
    have c10 := c_X10_undo (X := X) (n := 0) (ML := ML) (MR := MR) (r := r) (K := K1 + 1) (V := V) (A2 := Ax) h.1.1 hSt h.1.2 hK (by omega) hKr.1 hS hIc.2.2.2.1.1 hA hAr.1 hV hs0 hs1 hs2 hAx
    rw [show K1 + 1 - 1 = K1 by omega] at c10
    refine ⟨_, _, ?_, c10, fun r0' W B C hz => ?_⟩
    · decide
    obtain ⟨rfl, rfl, rfl, rfl⟩ := hz
    by_cases k2 : MI (31 + r K1) 0 = 2
    · -- a GATE goes again
      have eA : Ax = A := by rw [hAx, if_neg (by rw [k2]; decide)]
      have eV : V = u2 (u2 MI 29 2 (nI K1)) 1 8 (nI (Gn - 1)) := by
        rw [hV]
        unfold tbR
        rw [if_neg (by rw [k2]; decide), if_neg (by rw [k2]; decide), show K1 + 1 - 1 = K1 by omega]
      obtain ⟨-, eAA, eGG, eC, eP⟩ : True ∧ A' = A ∧ Gn = G' + 1 ∧ rE S (MI 2) C' ∧ PE (arP MI) P' A := by
        rcases hU0 with ⟨e0, -⟩ | ⟨e0, -⟩ | ⟨e0, e1, e2, e3, e4⟩
        · exact absurd (k2.symm.trans e0) (by decide)
        · exact absurd (k2.symm.trans e0) (by decide)
        · exact ⟨trivial, e1, e2, e3, e4⟩
      subst eAA
      rw [if_pos k2, if_pos k2, eV]
      obtain ⟨U, hU⟩ : ∃ U, U = ansM (u2 (u2 (u2 (u2 MI 29 2 (nI K1)) 1 8 (nI (Gn - 1))) 85 1 (MI 1 3)) 85 2 0) 0 := ⟨_, rfl⟩
      rw [← hU]
      have uI : ∀ q, q ≠ 0 → q ≠ 1 → q ≠ 29 → q ≠ 85 → U q = MI q := fun q z0 z1 z2 z3 => by
        rw [hU]
        unfold ansM
        rw [u2_row _ _ z0, u2_row _ _ z3, u2_row _ _ z3, u2_row _ _ z1, u2_row _ _ z2]
      obtain ⟨W, hW⟩ : ∃ W, W = sr (u2 (th U) 124 19 (nI (K1 + 1 - 1))) 128 (fun j => if j < 88 then U 132 (88 * (K1 + 1 - 1) + j) else U 128 j) := ⟨_, rfl⟩
      have wo : ∀ q, q ≠ 124 → q ≠ 128 → W q = U q := fun q z1 z2 => by
        rw [hW, sr_ne _ _ z2, u2_row _ _ z1, th_b z1]
      have w128 : ∀ j, j < 88 → W 128 j = MI 132 (88 * K1 + j) := fun j hj => by
        rw [hW, sr_eq]
        show (if j < 88 then U 132 (88 * (K1 + 1 - 1) + j) else U 128 j) = _
        rw [if_pos hj, uI 132 (by decide) (by decide) (by decide) (by decide), show K1 + 1 - 1 = K1 by omega]
      have w24 : ∀ j, j ≠ 0 → j ≠ 19 → W 124 j = MI 124 j := fun j j0 j1 => by
        rw [hW, sr_ne _ _ (by decide), u2_ne _ _ (by omega)]
        refine (u2_ne _ _ (by omega)).trans ?_
        rw [uI 124 (by decide) (by decide) (by decide) (by decide)]
      have w19 : W 124 19 = nI K1 := by
        rw [hW, sr_ne _ _ (by decide), u2_eq, show K1 + 1 - 1 = K1 by omega]
      have wI : ∀ q, q ≠ 0 → q ≠ 1 → q ≠ 29 → q ≠ 85 → q ≠ 124 → q ≠ 128 → W q = MI q := fun q z0 z1 z2 z3 z4 z5 => by rw [wo q z4 z5, uI q z0 z1 z2 z3]
      obtain ⟨hIm, hIa2⟩ := und_use (MI := MI) (W := W) (r := r) (C' := C') (P' := P') hS (by omega) ⟨fun s hs => by rw [wI 2 (by decide) (by decide) (by decide) (by decide) (by decide) (by decide), eC s hs], fun i hi j hj => by
          show P' i j = W (4 + i) j
          rw [wI (4 + i) (by omega) (by omega) (by omega) (by omega) (by omega) (by omega), ← eP i hi j hj], fun g _ => by rw [wI 12 (by decide) (by decide) (by decide) (by decide) (by decide) (by decide)], fun g _ => by rw [wI 13 (by decide) (by decide) (by decide) (by decide) (by decide) (by decide)]⟩ hv hmv hch w128 (wI 132 (by decide) (by decide) (by decide) (by decide) (by decide) (by decide)) (fun k hk => by
          have := h.1.2.2.1 k hk
          exact wI _ (by omega) (by omega) (by omega) (by omega) (by omega) (by omega))
      have hP : okA (arR W) A' S := okA_PE (arcs_ok hIm.1.2.2.2.1).1 (vR_PE hIm.2)
      refine ⟨_, _, _, rfl, ?_, c_X11_undo (MI := U) (W := W) (A := A') (S := S) (b := b) (K := K1 + 1) h.1.1 hK (by omega) (by rw [uI 124 (by decide) (by decide) (by decide) (by decide)]; exact hKr.2) (by rw [uI 124 (by decide) (by decide) (by decide) (by decide)]; exact n20) hW hA' hS (by rw [uI 130 (by decide) (by decide) (by decide) (by decide)]; exact hIc.2.2.2.1.2) hIm.2.1 hP hm.2.2.2.2.1 (by rw [uI 130 (by decide) (by decide) (by decide) (by decide)]; exact hm.2.2.2.2.2), fun r2 W2 B2 C2 hy => ?_⟩
      · decide
      obtain ⟨rfl, rfl, rfl, rfl⟩ := hy
      refine ⟨rfl, r, S, A', G', b, K1, u, bi, bo, b, inv_gate h tl h.1 (fun q y0 y1 y2 y3 y4 y5 y6 y7 y8 y9 => wI q y0 y1 y4 y6 y7 y8) (fun j hj => ?_) w24 ⟨⟨by omega, hG'⟩, hIm.2.1, ?_, hIm.2.2.1, ?_, w19⟩ ⟨?_, ?_⟩ ⟨?_, ?_⟩ hIm hIa2⟩
      · rw [wo 1 (by decide) (by decide), hU]
        unfold ansM
        rw [u2_row _ _ (by decide), u2_row _ _ (by decide), u2_row _ _ (by decide), u2_ne _ _ (by omega), u2_row _ _ (by decide)]
      · rw [wo 1 (by decide) (by decide), hU]
        unfold ansM
        rw [u2_row _ _ (by decide), u2_row _ _ (by decide), u2_row _ _ (by decide), u2_eq, show Gn - 1 = G' by omega]
      · rw [wo 29 (by decide) (by decide), hU]
        unfold ansM
        rw [u2_row _ _ (by decide), u2_row _ _ (by decide), u2_row _ _ (by decide), u2_row _ _ (by decide), u2_eq]
      · rw [wo 85 (by decide) (by decide), hU]
        unfold ansM
        rw [u2_row _ _ (by decide), u2_ne _ _ (by omega), u2_eq]; exact hIc.2.2.2.2.2.2.1.1
      · rw [wo 85 (by decide) (by decide), hU]
        unfold ansM
        rw [u2_row _ _ (by decide), u2_eq]
      · rw [wo 0 (by decide) (by decide), hU]
        unfold ansM
        exact u2_eq _ _ _ _
      · rw [wo 0 (by decide) (by decide), hU]
        unfold ansM
        rw [u2_ne _ _ (by omega), u2_row _ _ (by decide), u2_row _ _ (by decide), u2_row _ _ (by decide), u2_row _ _ (by decide)]
    · -- a CODE or an ARC comes back
      rw [if_neg k2, if_neg k2]
      obtain ⟨eAx, mo, mo1, m16, m18, m29, hlM⟩ : Ax = A' ∧ (∀ q, q ≠ 1 → q ≠ 2 → ¬ (4 ≤ q ∧ q ≤ 11) → q ≠ 29 → V q = MI q) ∧ (∀ j, j ≠ 6 → V 1 j = MI 1 j) ∧ V 1 6 = nI A' ∧ V 1 8 = nI G' ∧ V 29 2 = nI K1 ∧ rE S C' (V 2) ∧ PE P' (arP V) A' := by
        rcases hU0 with ⟨e0, e1, e2, e3, s', e4, e5, e6, e7⟩ | ⟨e0, e1, e2, e3, e4, r0', e5, e6, e7⟩ | ⟨e0, -⟩
        · have e0' : MI (31 + r K1) 0 = 0 := e0
          have ss : s = s' := by
            have q := congrArg Int32.toNatClampNeg ((hs0 e0').2.symm.trans e5)
            have := (hs0 e0').1
            rwa [nI_clamp (show s < 2 ^ 31 by omega), nI_clamp (show s' < 2 ^ 31 by omega)] at q
          subst ss
          have eV : V = u2 (u2 MI 29 2 (nI K1)) 2 s (MI (31 + r K1) 2) := by
            rw [hV]
            unfold tbR
            rw [if_pos e0', show K1 + 1 - 1 = K1 by omega]
          refine ⟨?_, fun q z1 z2 z3 z4 => ?_, fun j hj => ?_, ?_, ?_, ?_, fun t ht => ?_, fun i hi j hj => ?_⟩
          · rw [hAx, if_neg (by rw [e0']; decide), e1]
          · rw [eV, u2_row _ _ z2, u2_row _ _ z4]
          · rw [eV, u2_row _ _ (by decide), u2_row _ _ (by decide)]
          · rw [eV, u2_row _ _ (by decide), u2_row _ _ (by decide), e1]; exact hAr.1
          · rw [eV, u2_row _ _ (by decide), u2_row _ _ (by decide), e2]; exact hGr.1
          · rw [eV, u2_row _ _ (by decide), u2_eq]
          · rw [eV]
            by_cases q : t = s
            · rw [q, u2_eq]; exact e6
            · rw [u2_ne _ _ (by omega), u2_row _ _ (by decide)]; exact e7 t ht q
          · show P' i j = V (4 + i) j
            rw [eV, u2_row _ _ (by omega), u2_row _ _ (by omega), ← e3 i (by omega) j hj]
        · have e0' : MI (31 + r K1) 0 = 1 := e0
          have ss : r0 = r0' := by
            have q := congrArg Int32.toNatClampNeg ((hs1 e0').2.2.symm.trans e6)
            have := (hs1 e0').2.1
            rwa [nI_clamp (show r0 < 2 ^ 31 by omega), nI_clamp (show r0' < 2 ^ 31 by omega)] at q
          subst ss
          have eV : V = tbM (openM (u2 MI 29 2 (nI K1)) 1 r0 A) (MI (31 + r K1)) r0 6 := by
            rw [hV]
            unfold tbR
            rw [if_neg (by rw [e0']; decide), if_pos e0', show K1 + 1 - 1 = K1 by omega]
          have vo : ∀ q, ¬ (4 ≤ q ∧ q ≤ 11) → q ≠ 1 → V q = u2 MI 29 2 (nI K1) q := fun q z1 z2 => by
            funext j
            rw [eV]
            unfold tbM
            rw [if_neg (by omega)]
            unfold openM
            rw [u2_row _ _ z2]
            unfold opnRow
            rw [if_neg (by omega)]
          have v1 : ∀ j, V 1 j = if j = 6 then nI (A + 1) else MI 1 j := fun j => by
            rw [eV]
            unfold tbM
            rw [if_neg (by omega)]
            unfold openM
            by_cases q : j = 6
            · rw [if_pos q, q, u2_eq]
            · rw [if_neg q, u2_ne _ _ (by omega)]
              unfold opnRow
              rw [if_neg (by omega), u2_row _ _ (by decide)]
          refine ⟨?_, fun q z1 z2 z3 z4 => ?_, fun j hj => ?_, ?_, ?_, ?_, fun t ht => ?_, fun i hi j hj => ?_⟩
          · rw [hAx, if_pos e0', e1]
          · rw [vo q (by omega) z1, u2_row _ _ z4]
          · rw [v1, if_neg hj]
          · rw [v1, if_pos rfl, e1]
          · rw [v1, if_neg (by decide), e2]; exact hGr.1
          · rw [vo 29 (by omega) (by decide), u2_eq]
          · rw [vo 2 (by omega) (by decide), u2_row _ _ (by decide), e3 t ht]
          · show P' i j = V (4 + i) j
            obtain ⟨f1, f2, f3⟩ := e7 j hj
            rw [eV]
            unfold tbM
            by_cases q : i = r0
            · rw [if_pos (by omega), q]; exact f2
            · rw [if_neg (by omega)]
              unfold openM
              rw [u2_row _ _ (by omega)]
              unfold opnRow
              by_cases q2 : i < r0
              · rw [if_neg (by omega), u2_row _ _ (by omega)]; exact f1 i q2
              · rw [if_pos (by omega), u2_row _ _ (by omega), show 4 + i - 1 = 4 + (i - 1) by omega]
                exact f3 i (by omega) (by omega)
        · exact absurd e0 k2
      subst eAx
      obtain ⟨U, hU⟩ : ∃ U, U = ansM (saM V ML S Ax) 0 := ⟨_, rfl⟩
      rw [← hU]
      have uM : ∀ q, q ≠ 0 → q < 43 ∨ 123 < q → U q = V q := fun q z0 z1 => by
        rw [hU]
        unfold ansM
        rw [u2_row _ _ z0, sa_row (by omega)]
      have uI : ∀ q, q ≠ 0 → q ≠ 1 → q ≠ 2 → ¬ (4 ≤ q ∧ q ≤ 11) → q ≠ 29 → q < 43 ∨ 123 < q → U q = MI q := fun q z0 z1 z2 z3 z4 z5 => by rw [uM q z0 z5, mo q z1 z2 z3 z4]
      have e124 : U 124 = MI 124 := uI 124 (by decide) (by decide) (by decide) (by omega) (by decide) (by omega)
      have e130 : U 130 = MI 130 := uI 130 (by decide) (by decide) (by decide) (by omega) (by decide) (by omega)
      have e132 : U 132 = MI 132 := uI 132 (by decide) (by decide) (by decide) (by omega) (by decide) (by omega)
      obtain ⟨W, hW⟩ : ∃ W, W = sr (u2 (th U) 124 19 (nI (K1 + 1 - 1))) 128 (fun j => if j < 88 then U 132 (88 * (K1 + 1 - 1) + j) else U 128 j) := ⟨_, rfl⟩
      have wo : ∀ q, q ≠ 124 → q ≠ 128 → W q = U q := fun q z1 z2 => by
        rw [hW, sr_ne _ _ z2, u2_row _ _ z1, th_b z1]
      have w128 : ∀ j, j < 88 → W 128 j = MI 132 (88 * K1 + j) := fun j hj => by
        rw [hW, sr_eq]
        show (if j < 88 then U 132 (88 * (K1 + 1 - 1) + j) else U 128 j) = _
        rw [if_pos hj, e132, show K1 + 1 - 1 = K1 by omega]
      have w24 : ∀ j, j ≠ 0 → j ≠ 19 → W 124 j = U 124 j := fun j j0 j1 => by
        rw [hW, sr_ne _ _ (by decide), u2_ne _ _ (by omega)]
        exact u2_ne _ _ (by omega)
      have w19 : W 124 19 = nI K1 := by
        rw [hW, sr_ne _ _ (by decide), u2_eq, show K1 + 1 - 1 = K1 by omega]
      have wI : ∀ q, q ≠ 0 → q ≠ 1 → q ≠ 2 → ¬ (4 ≤ q ∧ q ≤ 11) → q ≠ 29 → q < 43 ∨ 123 < q → q ≠ 124 → q ≠ 128 → W q = MI q := fun q z0 z1 z2 z3 z4 z5 z6 z7 => by rw [wo q z6 z7, uI q z0 z1 z2 z3 z4 z5]
      obtain ⟨hIm, hIa2⟩ := und_use (MI := MI) (W := W) (r := r) (C' := C') (P' := P') hS (by omega) ⟨fun s hs => by rw [wo 2 (by decide) (by decide), uM 2 (by decide) (by omega), hlM.1 s hs], fun i hi j hj => by
          show P' i j = W (4 + i) j
          rw [wo (4 + i) (by omega) (by omega), uM (4 + i) (by omega) (by omega)]
          exact hlM.2 i hi j hj, fun g _ => by rw [wI 12 (by decide) (by decide) (by decide) (by omega) (by decide) (by omega) (by decide) (by decide)], fun g _ => by rw [wI 13 (by decide) (by decide) (by decide) (by omega) (by decide) (by omega) (by decide) (by decide)]⟩ hv hmv hch w128 (wI 132 (by decide) (by decide) (by decide) (by omega) (by decide) (by omega) (by decide) (by decide)) (fun k hk => by
          have := h.1.2.2.1 k hk
          exact wI _ (by omega) (by omega) (by omega) (by omega) (by omega) (by omega) (by omega) (by omega))
      have hP : okA (arR W) Ax S := okA_PE (arcs_ok hIm.1.2.2.2.1).1 (vR_PE hIm.2)
      refine ⟨_, _, _, rfl, ?_, c_X11_undo (MI := U) (W := W) (A := Ax) (S := S) (b := b) (K := K1 + 1) h.1.1 hK (by omega) (by rw [e124]; exact hKr.2) (by rw [e124]; exact n20) hW hA' hS (by rw [e130]; exact hIc.2.2.2.1.2) hIm.2.1 hP hm.2.2.2.2.1 (by rw [e130]; exact hm.2.2.2.2.2), fun r2 W2 B2 C2 hy => ?_⟩
      · decide
      obtain ⟨rfl, rfl, rfl, rfl⟩ := hy
      exact ⟨rfl, r, S, Ax, G', b, K1, u, bi, bo, b, inv_act h tl h.1 (fun q z1 z2 z3 z4 z5 => mo q z1 z2 (by omega) z4) (fun j z1 _ => mo1 j z1) hU (fun q z1 z2 _ => wo q z1 z2) w24 ⟨⟨by omega, hA', hG'⟩, m16, hIm.2.1, m18, hIm.2.2.1, m29, w19⟩ hIm hIa2⟩
end und

/-! strike, add -/
section act4
variable {X : xG} {MI W U W2 V M : Mi} {ML B D : Nat → Nat → Int64} {MR MR2 : Nat → Nat → Option Nat} {r r2 : Nat → Nat} {S A Gn b K u bi bo w f A2 G2 K2 : Nat} {x y : Int32}
theorem st_rows {r0 : Nat} (hA : A ≤ 8) (hr0 : r0 < A) (hr12 : r (frP K) < 12) : (∀ q, q ≠ 1 → ¬ (4 ≤ q ∧ q ≤ 13) → q ≠ 29 → q ≠ 31 + r (frP K) → stM MI r K r0 A q = MI q) ∧ (∀ q, q = 12 ∨ q = 13 → stM MI r K r0 A q = MI q) ∧ (∀ j, j ≠ 6 → stM MI r K r0 A 1 j = MI 1 j) ∧ stM MI r K r0 A 1 6 = nI (A - 1) ∧ stM MI r K r0 A 29 2 = nI (frK K + 1) ∧ (∀ i j, i < A - 1 → j < 6 → stM MI r K r0 A (4 + i) j = if r0 ≤ i then MI (5 + i) j else MI (4 + i) j) ∧ stM MI r K r0 A (31 + r (frP K)) 0 = 1 ∧ stM MI r K r0 A (31 + r (frP K)) 1 = nI r0 ∧ ∀ j, j < 6 → stM MI r K r0 A (31 + r (frP K)) (2 + j) = MI (4 + r0) j := by
  have s0 : ∀ q, q ≠ 31 + r (frP K) → q ≠ 29 → skM (frM MI (31 + r (frP K)) K 1 (nI r0)) MI (31 + r (frP K)) r0 6 q = MI q := fun q z1 z2 => by
    funext j
    unfold skM
    rw [if_neg (fun q => z1 q.1)]
    unfold frM
    rw [u2_row _ _ z2, u2_row _ _ z1, u2_row _ _ z1]
  have rr : ∀ q, ¬ (4 ≤ q ∧ q < 4 + (A - 1)) → q ≠ 1 → stM MI r K r0 A q = skM (frM MI (31 + r (frP K)) K 1 (nI r0)) MI (31 + r (frP K)) r0 6 q := fun q z1 z2 => by
    funext j
    unfold stM removeM
    rw [u2_row _ _ z2]
    unfold remRow
    rw [if_neg (by omega)]
  refine ⟨fun q z1 z2 z3 z4 => ?_, fun q hq => ?_, fun j hj => ?_, ?_, ?_, fun i j hi hj => ?_, ?_, ?_, fun j hj => ?_⟩
  · rw [rr q (by omega) z1, s0 q z4 z3]
  · rw [rr q (by omega) (by omega), s0 q (by omega) (by omega)]
  · unfold stM removeM
    rw [u2_ne _ _ (by omega)]
    unfold remRow
    rw [if_neg (by omega), s0 1 (by omega) (by decide)]
  · unfold stM removeM
    exact u2_eq _ _ _ _
  · rw [rr 29 (by omega) (by decide)]
    unfold skM
    rw [if_neg (by omega)]
    unfold frM
    exact u2_eq _ _ _ _
  · unfold stM removeM
    rw [u2_row _ _ (by omega)]
    unfold remRow
    by_cases z : r0 ≤ i
    · rw [if_pos (Or.inl ⟨by omega, by omega, hj⟩), if_pos z, s0 _ (by omega) (by omega), show 4 + i + 1 = 5 + i by omega]
    · rw [if_neg (by omega), if_neg z, s0 _ (by omega) (by omega)]
  · rw [rr _ (by omega) (by omega)]
    unfold skM
    rw [if_neg (by omega)]
    unfold frM
    rw [u2_ne _ _ (by omega), u2_ne _ _ (by omega)]
    exact u2_eq _ _ _ _
  · rw [rr _ (by omega) (by omega)]
    unfold skM
    rw [if_neg (by omega)]
    unfold frM
    rw [u2_ne _ _ (by omega)]
    exact u2_eq _ _ _ _
  · rw [rr _ (by omega) (by omega)]
    unfold skM
    rw [if_pos ⟨rfl, by omega, by omega⟩, show 2 + j - 2 = j by omega]
theorem two_strike (hSt : x_St X) (hAA : x_AA X) (h : Inv MI ML MR r S A Gn b K u bi bo w) : Two X yX10_strike cX10_strike 2 (some .int) [.ref 0, .int x] yX11_strike cX11_strike 3 (some .int) [.ref 124, .int x] MI ML MR := by
  obtain ⟨hT, hIt, hIc, hIi, ⟨m1, m2⟩, hIa, hIv, -⟩ := id h.2.1
  have hS : S ≤ 6 := hIc.2.2.1.1
  have hA : A ≤ 8 := hIc.2.2.1.2.1
  have hK : K ≤ 12 := hIc.2.2.1.2.2.2.1
  have hAr := hIc.2.2.2.2.1
  by_cases z : inR x (MI 1 6) = true
  · rw [hAr.1] at z
    obtain ⟨r0, hr0, rfl⟩ := inR_ex (N := A) (by omega) (inR_t.mp z).1 (inR_t.mp z).2
    have tl := told_S h.2.1 (Or.inr (by omega))
    refine ⟨_, _, ?_, c_X10_strike h.1.1 hSt hAA h.1.2 hK hIc.2.2.2.2.2.2.2.1.1 hS hIc.2.2.2.1.1 hA hAr.1 hr0, fun r0' W B C hz => ?_⟩
    · decide
    obtain ⟨rfl, rfl, rfl, rfl⟩ := hz
    have hP12 : frP K < 12 := by unfold frP; split <;> omega
    have hr12 := h.1.2.2.1 (frP K) hP12
    obtain ⟨mo, m12, mo1, m16, m29, mA, mr0, mr1, mr2⟩ := st_rows (MI := MI) (r := r) (K := K) hA hr0 hr12
    obtain ⟨M, hMd⟩ : ∃ M, M = stM MI r K r0 A := ⟨_, rfl⟩
    rw [← hMd] at mo m12 mo1 m16 m29 mA mr0 mr1 mr2 ⊢
    obtain ⟨U, hU⟩ : ∃ U, U = ansM (saM M ML S (A - 1)) 0 := ⟨_, rfl⟩
    rw [← hU]
    have uM : ∀ q, q ≠ 0 → q < 43 ∨ 123 < q → U q = M q := fun q z0 z1 => by
      rw [hU]
      unfold ansM
      rw [u2_row _ _ z0, sa_row (by omega)]
    have uI : ∀ q, q ≠ 0 → q ≠ 1 → ¬ (4 ≤ q ∧ q ≤ 11) → q ≠ 29 → ¬ (31 ≤ q ∧ q ≤ 42) → q < 43 ∨ 123 < q → U q = MI q := fun q z0 z1 z2 z3 z4 z5 => by
      rw [uM q z0 z5]
      by_cases y1 : q = 12 ∨ q = 13
      · exact m12 q y1
      · exact mo q z1 (by omega) z3 (by omega)
    have eA : arR U = arR MI := by
      funext i j
      show U 128 _ = MI 128 _
      rw [uI 128 (by decide) (by decide) (by omega) (by decide) (by omega) (by omega)]
    have hm := Bs_m h.2.1
    have e124 : U 124 = MI 124 := uI 124 (by decide) (by decide) (by omega) (by decide) (by omega) (by omega)
    have e130 : U 130 = MI 130 := uI 130 (by decide) (by decide) (by omega) (by decide) (by omega) (by omega)
    have e128 : U 128 = MI 128 := uI 128 (by decide) (by decide) (by omega) (by decide) (by omega) (by omega)
    obtain ⟨W, hW⟩ : ∃ W, W = sr (rmM (th U) K) 128 (skV (U 128) r0 A) := ⟨_, rfl⟩
    refine ⟨_, _, _, rfl, ?_, c_X11_strike (MI := U) (W := W) (frR_Lay h.1.1) hA hS (by rw [e130]; exact hIc.2.2.2.1.2) (by rw [e128]; exact hm.2.2.1) (by rw [eA]; exact hm.2.2.2.1) hm.2.2.2.2.1 (by rw [e130]; exact hm.2.2.2.2.2) hK (by rw [e124]; exact hIc.2.2.2.2.2.2.2.1.2) hr0 (by rw [e124, hIc.2.1, tl]; decide) hW, fun r2 W2 B2 C2 hy => ?_⟩
    · decide
    obtain ⟨rfl, rfl, rfl, rfl⟩ := hy
    refine ⟨rfl, frG r K, S, A - 1, Gn, b, frK K + 1, u, bi, bo, b, ?_⟩
    have wo : ∀ q, q ≠ 124 → q ≠ 128 → q ≠ 132 → W q = U q := fun q z1 z2 z3 => by
      rw [hW]
      unfold rmM
      rw [sr_ne _ _ z2, u2_row _ _ z1, sr_ne _ _ z3, th_b z1]
    have w128 : W 128 = skV (MI 128) r0 A := by rw [hW, sr_eq, e128]
    have w132 : W 132 = rmP (MI 132) (MI 128) K := by
      rw [hW, sr_ne _ _ (by decide)]
      unfold rmM
      rw [u2_row _ _ (by decide), sr_eq, th_b (by decide), th_b (by decide), uI 132 (by decide) (by decide) (by omega) (by decide) (by omega) (by omega), e128]
    have w24 : ∀ j, j ≠ 0 → j ≠ 19 → W 124 j = U 124 j := fun j j0 j1 => by
      rw [hW, sr_ne _ _ (by decide)]
      unfold rmM
      rw [u2_ne _ _ (by omega), sr_ne _ _ (by decide)]
      exact u2_ne _ _ (by omega)
    have w19 : W 124 19 = nI (frK K + 1) := by
      rw [hW, sr_ne _ _ (by decide)]
      unfold rmM
      exact u2_eq _ _ _ _
    have wI : ∀ q, q = 2 ∨ q = 12 ∨ q = 13 → W q = MI q := fun q hq => by rw [wo q (by omega) (by omega) (by omega), uI q (by omega) (by omega) (by omega) (by omega) (by omega) (by omega)]
    have wA : ∀ i j, i < A - 1 → j < 6 → arP W i j = if r0 ≤ i then arP MI (i + 1) j else arP MI i j := fun i j hi hj => by
      show W (4 + i) j = if r0 ≤ i then MI (4 + (i + 1)) j else MI (4 + i) j
      rw [wo _ (by omega) (by omega) (by omega), uM _ (by omega) (by omega), mA i j hi hj, show 4 + (i + 1) = 5 + i by omega]
    have wr : W (31 + r (frP K)) = M (31 + r (frP K)) := by rw [wo _ (by omega) (by omega) (by omega), uM _ (by omega) (by omega)]
    have hIm : Im W S (A - 1) Gn := by
      refine ⟨⟨by omega, m1.2.1, ?_, fun i hi => ?_, ?_⟩, ?_⟩
      · rw [wI 2 (by omega)]; exact m1.2.2.1
      · obtain ⟨f0, g0, u0, v0, o0, p0, a1, a2, a3, a4, a5, a6, b0, b1, b2, b3, b4, b5⟩ := m1.2.2.2.1 (if r0 ≤ i then i + 1 else i) (by split <;> omega)
        have e : ∀ j, j < 6 → arP W i j = arP MI (if r0 ≤ i then i + 1 else i) j := fun j hj => by
          rw [wA i j hi hj]
          split <;> rfl
        exact ⟨f0, g0, u0, v0, o0, p0, a1, a2, a3, a4, a5, a6, (e 0 (by decide)).trans b0, (e 1 (by decide)).trans b1, (e 2 (by decide)).trans b2, (e 3 (by decide)).trans b3, (e 4 (by decide)).trans b4, (e 5 (by decide)).trans b5⟩
      · rw [wI 12 (by omega), wI 13 (by omega)]; exact m1.2.2.2.2
      · rw [w128, wI 2 (by omega), wI 12 (by omega), wI 13 (by omega)]
        have k6 : ∀ j, j ≠ 6 → skV (MI 128) r0 A j = if 7 + 6 * r0 ≤ j ∧ j < 49 then MI 128 (j + 6) else MI 128 j := fun j hj => by
          unfold skV skR6
          rw [if_neg hj]
        refine ⟨?_, ?_, fun t ht => ?_, fun i hi j hj => ?_, fun g hg => ⟨?_, ?_⟩⟩
        · unfold skV
          exact if_pos rfl
        · rw [k6 55 (by decide), if_neg (by omega)]; exact m2.2.1
        · rw [k6 t (by omega), if_neg (by omega)]; exact m2.2.2.1 t ht
        · rw [k6 _ (by omega), wA i j hi hj]
          by_cases y1 : r0 ≤ i
          · rw [if_pos (by omega), if_pos y1, ← m2.2.2.2.1 (i + 1) (by omega) j hj, show 7 + 6 * i + j + 6 = 7 + 6 * (i + 1) + j by omega]
          · rw [if_neg (by omega), if_neg y1]; exact m2.2.2.2.1 i (by omega) j hj
        · rw [k6 _ (by omega), if_neg (by omega)]; exact (m2.2.2.2.2 g hg).1
        · rw [k6 _ (by omega), if_neg (by omega)]; exact (m2.2.2.2.2 g hg).2
    refine inv_act h tl ⟨frR_Lay h.1.1, frR_Rw h.1.2⟩ (fun q z1 z2 z3 z4 z5 => mo q z1 z3 z4 (by omega)) (fun j z1 _ => mo1 j z1) hU wo w24 ⟨⟨?_, by omega, hIc.2.2.1.2.2.1⟩, m16, hIm.2.1, ?_, hIm.2.2.1, m29, w19⟩ hIm ?_
    · unfold frK
      split <;> omega
    · rw [mo1 8 (by decide)]; exact hIc.2.2.2.2.2.1.1
    · refine Ia_new (A := A) (Gn := Gn) (MR := MR) hS hK h.1.2 hIa ⟨m1, m2⟩ (fun k hk hne => ?_) w132 (fun g _ => by rw [wI 12 (by omega)]) (fun g _ => by rw [wI 13 (by omega)]) (Or.inr (Or.inl ⟨?_, by omega, rfl, fun s _ => by rw [wI 2 (by omega)], by omega, r0, by omega, ?_, fun j hj => ⟨fun i hi => ?_, ?_, fun i i1 i2 => ?_⟩⟩))
      · have h12 := h.1.2.2.1 k hk
        have hne2 : r k ≠ r (frP K) := fun q => hne (h.1.2.2.2 k (frP K) hk hP12 q)
        rw [wo _ (by omega) (by omega) (by omega), uM _ (by omega) (by omega), mo _ (by omega) (by omega) (by omega) (by omega)]
      · rw [wr]; exact mr0
      · rw [wr]; exact mr1
      · rw [wA i j (by omega) hj, if_neg (by omega)]
      · rw [wr, mr2 j hj]
      · rw [wA (i - 1) j (by omega) hj, if_pos (by omega), show i - 1 + 1 = i by omega]
  · have c10 := c_X10_strike_no (X := X) (n := 0) (ML := ML) h.1.1 z
    have eS := (rIS_eq (x := x) h.2.1).2
    have z2 : ¬ rIA (th (ansM MI 1)) x = true := by
      rw [show rIA (th (ansM MI 1)) x = rIA MI x from rfl, eS, ← hAr.1]
      exact z
    have c11 := c_X11_strike_no (X := X) (n := 0) (MI := ansM MI 1) (ML := ML) h.1.1 z2
    exact two_an h (by decide) (by decide) c10 c11 rfl (by decide)
theorem rIF_eq (h : Bs MI ML r S A Gn b K u bi bo w) : rIF MI x = true ↔ ¬ MI 1 0 = 0 ∧ inR x 5 = true := by
  have hBx : inB x 0 4 = inR x 5 := inB_R (N := 4) (by decide)
  unfold rIF
  rw [hBx, h.2.2.1.2.1, Bool.and_eq_true, decide_eq_true_eq]
theorem two_add (hAA : x_AA X) (h : Inv MI ML MR r S A Gn b K u bi bo w) : Two X yX10_add cX10_add 3 (some .int) [.ref 0, .int x, .int y] yX11_add cX11_add 3 (some .int) [.ref 124, .int x, .int y] MI ML MR := by
  obtain ⟨hT, hIt, hIc, hIi, ⟨m1, m2⟩, hIa, hIv, -⟩ := id h.2.1
  have hS : S ≤ 6 := hIc.2.2.1.1
  have hA : A ≤ 8 := hIc.2.2.1.2.1
  have hG : Gn ≤ 16 := hIc.2.2.1.2.2.1
  have hK : K ≤ 12 := hIc.2.2.1.2.2.2.1
  have hGr := hIc.2.2.2.2.2.1
  have hB9 : inB y 0 728 = inR y 729 := inB_R (N := 728) (by decide)
  by_cases z : ¬ MI 1 0 = 0 ∧ inR x 5 = true ∧ inR y 729 = true ∧ Gn < 16
  · obtain ⟨z1, z2, z3, z4⟩ := id z
    obtain ⟨xf, hxf, rfl⟩ := inR_ex (N := 5) (by decide) (inR_t.mp z2).1 (inR_t.mp z2).2
    obtain ⟨yc, hyc, rfl⟩ := inR_ex (N := 729) (by decide) (inR_t.mp z3).1 (inR_t.mp z3).2
    have tl := Bs_told h.2.1 z1
    refine ⟨_, _, ?_, c_X10_add h.1.1 hAA h.1.2 hK hIc.2.2.2.2.2.2.2.1.1 z4 hGr.1 z1 z2 z3, fun r0 W B C hz => ?_⟩
    · decide
    obtain ⟨rfl, rfl, rfl, rfl⟩ := hz
    have hP12 : frP K < 12 := by unfold frP; split <;> omega
    have hr12 := h.1.2.2.1 (frP K) hP12
    obtain ⟨U, hU⟩ : ∃ U, U = ansM (u2 (u2 (adM MI r K Gn (nI xf) (nI yc)) 85 1 (MI 1 3)) 85 2 0) 0 := ⟨_, rfl⟩
    rw [← hU]
    have uI : ∀ q, q ≠ 0 → q ≠ 1 → q ≠ 12 → q ≠ 13 → q ≠ 29 → q ≠ 31 + r (frP K) → q ≠ 85 → U q = MI q := fun q z0 z1 z2 z3 z4 z5 z6 => by
      rw [hU]
      unfold ansM adM frM
      rw [u2_row _ _ z0, u2_row _ _ z6, u2_row _ _ z6, u2_row _ _ z1, u2_row _ _ z3, u2_row _ _ z2, u2_row _ _ z4, u2_row _ _ z5, u2_row _ _ z5]
    have u12 : U 12 = up (MI 12) Gn (nI xf) := by
      rw [hU]
      unfold ansM adM
      rw [u2_row _ _ (by decide), u2_row _ _ (by decide), u2_row _ _ (by decide), u2_row _ _ (by decide), u2_row _ _ (by decide)]
      funext j
      show u2 _ 12 Gn (nI xf) 12 j = if j = Gn then nI xf else MI 12 j
      unfold u2
      by_cases q : j = Gn
      · rw [if_pos ⟨rfl, q⟩, if_pos q]
      · rw [if_neg (fun z => q z.2), if_neg q]
        show frM MI (31 + r (frP K)) K 2 (nI Gn) 12 j = _
        unfold frM
        rw [u2_row _ _ (by decide), u2_row _ _ (by omega), u2_row _ _ (by omega)]
    have u13 : U 13 = up (MI 13) Gn (nI yc) := by
      rw [hU]
      unfold ansM adM
      rw [u2_row _ _ (by decide), u2_row _ _ (by decide), u2_row _ _ (by decide), u2_row _ _ (by decide)]
      funext j
      show u2 _ 13 Gn (nI yc) 13 j = if j = Gn then nI yc else MI 13 j
      unfold u2
      by_cases q : j = Gn
      · rw [if_pos ⟨rfl, q⟩, if_pos q]
      · rw [if_neg (fun z => q z.2), if_neg q, if_neg (by omega)]
        show frM MI (31 + r (frP K)) K 2 (nI Gn) 13 j = _
        unfold frM
        rw [u2_row _ _ (by decide), u2_row _ _ (by omega), u2_row _ _ (by omega)]
    have u1 : ∀ j, j ≠ 8 → U 1 j = MI 1 j := fun j hj => by
      rw [hU]
      unfold ansM adM frM
      rw [u2_row _ _ (by decide), u2_row _ _ (by decide), u2_row _ _ (by decide), u2_ne _ _ (by omega), u2_row _ _ (by decide), u2_row _ _ (by decide), u2_row _ _ (by decide), u2_row _ _ (by omega), u2_row _ _ (by omega)]
    have u18 : U 1 8 = nI (Gn + 1) := by
      rw [hU]
      unfold ansM adM
      rw [u2_row _ _ (by decide), u2_row _ _ (by decide), u2_row _ _ (by decide)]
      exact u2_eq _ _ _ _
    have u29 : U 29 2 = nI (frK K + 1) := by
      rw [hU]
      unfold ansM adM frM
      rw [u2_row _ _ (by decide), u2_row _ _ (by decide), u2_row _ _ (by decide), u2_row _ _ (by decide), u2_row _ _ (by decide), u2_row _ _ (by decide)]
      exact u2_eq _ _ _ _
    have u85 : U 85 1 = nI b ∧ U 85 2 = 0 := by
      rw [hU]
      unfold ansM
      rw [u2_row _ _ (by decide)]
      refine ⟨?_, u2_eq _ _ _ _⟩
      rw [u2_ne _ _ (by omega), u2_eq]
      exact hIc.2.2.2.2.2.2.1.1
    have u0 : U 0 8 = 0 ∧ U 0 9 = MI 0 9 := by
      rw [hU]
      unfold ansM
      refine ⟨u2_eq _ _ _ _, ?_⟩
      unfold adM frM
      rw [u2_ne _ _ (by omega), u2_row _ _ (by decide), u2_row _ _ (by decide), u2_row _ _ (by decide), u2_row _ _ (by decide), u2_row _ _ (by decide), u2_row _ _ (by decide), u2_row _ _ (by omega), u2_row _ _ (by omega)]
    have ur : U (31 + r (frP K)) 0 = 2 := by
      rw [hU]
      unfold ansM adM frM
      rw [u2_row _ _ (by omega), u2_row _ _ (by omega), u2_row _ _ (by omega), u2_row _ _ (by omega), u2_row _ _ (by omega), u2_row _ _ (by omega), u2_row _ _ (by omega), u2_ne _ _ (by omega)]
      exact u2_eq _ _ _ _
    have e124 : U 124 = MI 124 := uI 124 (by decide) (by decide) (by decide) (by decide) (by decide) (by omega) (by decide)
    have e130 : U 130 = MI 130 := uI 130 (by decide) (by decide) (by decide) (by decide) (by decide) (by omega) (by decide)
    have e128 : U 128 = MI 128 := uI 128 (by decide) (by decide) (by decide) (by decide) (by decide) (by omega) (by decide)
    have e132 : U 132 = MI 132 := uI 132 (by decide) (by decide) (by decide) (by decide) (by decide) (by omega) (by decide)
    have eA : arR U = arR MI := by
      funext i j
      show U 128 _ = MI 128 _
      rw [e128]
    have hm := Bs_m h.2.1
    have hxr : rIF (th U) (nI xf) = true := by
      have : rIF MI (nI xf) = true := (rIF_eq h.2.1).mpr ⟨z1, z2⟩
      unfold rIF at this ⊢
      show (decide (¬ U 124 20 = 0) && inB (nI xf) 0 4) = true
      rw [e124]
      exact this
    obtain ⟨W, hW⟩ : ∃ W, W = u2 (u2 (u2 (rmM (th U) K) 128 (56 + 2 * Gn) (nI xf)) 128 (56 + 2 * Gn + 1) (nI yc)) 128 55 (nI (Gn + 1)) := ⟨_, rfl⟩
    refine ⟨_, _, _, rfl, ?_, c_X11_add (MI := U) (W := W) (frR_Lay h.1.1) hA hS (by rw [e130]; exact hIc.2.2.2.1.2) (by rw [e128]; exact hm.2.2.1) (by rw [eA]; exact hm.2.2.2.1) hm.2.2.2.2.1 (by rw [e130]; exact hm.2.2.2.2.2) hK (by rw [e124]; exact hIc.2.2.2.2.2.2.2.1.2) z4 (by rw [e128]; exact hGr.2) hxr (by rw [hB9]; exact z3) hW, fun r2 W2 B2 C2 hy => ?_⟩
    · decide
    obtain ⟨rfl, rfl, rfl, rfl⟩ := hy
    refine ⟨rfl, frG r K, S, A, Gn + 1, b, frK K + 1, u, bi, bo, b, ?_⟩
    have wo : ∀ q, q ≠ 124 → q ≠ 128 → q ≠ 132 → W q = U q := fun q z1 z2 z3 => by
      rw [hW]
      unfold rmM
      rw [u2_row _ _ z2, u2_row _ _ z2, u2_row _ _ z2, u2_row _ _ z1, sr_ne _ _ z3, th_b z1]
    have w128 : ∀ j, W 128 j = if j = 55 then nI (Gn + 1) else if j = 56 + 2 * Gn + 1 then nI yc else if j = 56 + 2 * Gn then nI xf else MI 128 j := fun j => by
      rw [hW]
      unfold u2
      by_cases q1 : j = 55
      · rw [if_pos ⟨rfl, q1⟩, if_pos q1]
      rw [if_neg (fun z => q1 z.2), if_neg q1]
      by_cases q2 : j = 56 + 2 * Gn + 1
      · rw [if_pos ⟨rfl, q2⟩, if_pos q2]
      rw [if_neg (fun z => q2 z.2), if_neg q2]
      by_cases q3 : j = 56 + 2 * Gn
      · rw [if_pos ⟨rfl, q3⟩, if_pos q3]
      rw [if_neg (fun z => q3 z.2), if_neg q3]
      unfold rmM
      rw [u2_row _ _ (by decide), sr_ne _ _ (by decide), th_b (by decide), e128]
    have w132 : W 132 = rmP (MI 132) (MI 128) K := by
      rw [hW, u2_row _ _ (by decide), u2_row _ _ (by decide), u2_row _ _ (by decide)]
      unfold rmM
      rw [u2_row _ _ (by decide), sr_eq, th_b (by decide), th_b (by decide), e132, e128]
    have w24 : ∀ j, j ≠ 0 → j ≠ 19 → W 124 j = MI 124 j := fun j j0 j1 => by
      rw [hW, u2_row _ _ (by decide), u2_row _ _ (by decide), u2_row _ _ (by decide)]
      unfold rmM
      rw [u2_ne _ _ (by omega), sr_ne _ _ (by decide)]
      refine (u2_ne _ _ (by omega)).trans ?_
      rw [e124]
    have w19 : W 124 19 = nI (frK K + 1) := by
      rw [hW, u2_row _ _ (by decide), u2_row _ _ (by decide), u2_row _ _ (by decide)]
      unfold rmM
      exact u2_eq _ _ _ _
    have w2 : W 2 = MI 2 := by rw [wo 2 (by decide) (by decide) (by decide), uI 2 (by decide) (by decide) (by decide) (by decide) (by decide) (by omega) (by decide)]
    have wA : PE (arP MI) (arP W) A := fun i hi j _ => by
      show MI (4 + i) j = W (4 + i) j
      rw [wo _ (by omega) (by omega) (by omega), uI _ (by omega) (by omega) (by omega) (by omega) (by omega) (by omega) (by omega)]
    have w12 : W 12 = up (MI 12) Gn (nI xf) := by rw [wo 12 (by decide) (by decide) (by decide), u12]
    have w13 : W 13 = up (MI 13) Gn (nI yc) := by rw [wo 13 (by decide) (by decide) (by decide), u13]
    have hIm : Im W S A (Gn + 1) := by
      refine ⟨⟨hA, by omega, ?_, fun i hi => ?_, fun g hg => ?_⟩, ?_, ?_, fun t ht => ?_, fun i hi j hj => ?_, fun g hg => ?_⟩
      · rw [w2]; exact m1.2.2.1
      · obtain ⟨f0, g0, u0, v0, o0, p0, a1, a2, a3, a4, a5, a6, b0, b1, b2, b3, b4, b5⟩ := m1.2.2.2.1 i hi
        exact ⟨f0, g0, u0, v0, o0, p0, a1, a2, a3, a4, a5, a6, (wA i hi 0 (by decide)).symm.trans b0, (wA i hi 1 (by decide)).symm.trans b1, (wA i hi 2 (by decide)).symm.trans b2, (wA i hi 3 (by decide)).symm.trans b3, (wA i hi 4 (by decide)).symm.trans b4, (wA i hi 5 (by decide)).symm.trans b5⟩
      · rw [w12, w13]
        by_cases q : g = Gn
        · rw [q, up_eq, up_eq]; exact ⟨xf, yc, hxf, hyc, rfl, rfl⟩
        · rw [up_ne _ _ q, up_ne _ _ q]; exact m1.2.2.2.2 g (by omega)
      · rw [w128, if_neg (by decide), if_neg (by omega), if_neg (by omega)]; exact m2.1
      · rw [w128, if_pos rfl]
      · rw [w128, if_neg (by omega), if_neg (by omega), if_neg (by omega), w2]; exact m2.2.2.1 t ht
      · rw [w128, if_neg (by omega), if_neg (by omega), if_neg (by omega), ← wA i hi j hj]; exact m2.2.2.2.1 i hi j hj
      · rw [w12, w13]
        by_cases q : g = Gn
        · rw [q, up_eq, up_eq, w128, w128, if_neg (by omega), if_neg (by omega), if_pos rfl, if_neg (by omega), if_pos (by omega)]
          exact ⟨rfl, rfl⟩
        · rw [up_ne _ _ q, up_ne _ _ q, w128, w128, if_neg (by omega), if_neg (by omega), if_neg (by omega), if_neg (by omega), if_neg (by omega), if_neg (by omega)]
          exact m2.2.2.2.2 g (by omega)
    refine inv_gate h tl ⟨frR_Lay h.1.1, frR_Rw h.1.2⟩ (fun q y0 y1 y2 y3 y4 y5 y6 y7 y8 y9 => ?_) (fun j hj => ?_) w24 ⟨⟨?_, by omega⟩, hIm.2.1, ?_, hIm.2.2.1, ?_, w19⟩ ⟨?_, ?_⟩ ⟨?_, ?_⟩ hIm ?_
    · rw [wo q y7 y8 y9, uI q y0 y1 y2 y3 y4 (by omega) y6]
    · rw [wo 1 (by decide) (by decide) (by decide), u1 j hj]
    · unfold frK
      split <;> omega
    · rw [wo 1 (by decide) (by decide) (by decide), u18]
    · rw [wo 29 (by decide) (by decide) (by decide), u29]
    · rw [wo 85 (by decide) (by decide) (by decide)]; exact u85.1
    · rw [wo 85 (by decide) (by decide) (by decide)]; exact u85.2
    · rw [wo 0 (by decide) (by decide) (by decide)]; exact u0.1
    · rw [wo 0 (by decide) (by decide) (by decide)]; exact u0.2
    · refine Ia_new (A := A) (Gn := Gn) (MR := MR) hS hK h.1.2 hIa ⟨m1, m2⟩ (fun k hk hne => ?_) w132 (fun g hg => by rw [w12, up_ne _ _ (by omega)]) (fun g hg => by rw [w13, up_ne _ _ (by omega)]) (Or.inr (Or.inr ⟨?_, rfl, rfl, fun s _ => by rw [w2], fun i hi j hj => (wA i hi j hj).symm⟩))
      · have h12 := h.1.2.2.1 k hk
        have hne2 : r k ≠ r (frP K) := fun q => hne (h.1.2.2.2 k (frP K) hk hP12 q)
        rw [wo _ (by omega) (by omega) (by omega), uI _ (by omega) (by omega) (by omega) (by omega) (by omega) (by omega) (by omega)]
      · rw [wo _ (by omega) (by omega) (by omega)]; exact ur
  · have c10 := c_X10_add_no (X := X) (n := 0) (ML := ML) h.1.1 hG hGr.1 z
    have z2 : ¬ (rIF (th (ansM MI (adN MI x y))) x = true ∧ inB y 0 728 = true ∧ Gn < 16) := fun q => by
      rw [show rIF (th (ansM MI (adN MI x y))) x = rIF MI x from rfl, hB9] at q
      have q1 := (rIF_eq h.2.1).mp q.1
      exact z ⟨q1.1, q1.2, q.2⟩
    have c11 := c_X11_add_no (X := X) (n := 0) (MI := ansM MI (adN MI x y)) (ML := ML) h.1.1 hG hGr.2 z2
    have e : radN (th (ansM MI (adN MI x y))) x y = adN MI x y := by
      unfold radN
      rw [show rIF (th (ansM MI (adN MI x y))) x = rIF MI x from rfl, hB9]
      unfold adN
      by_cases q : ¬ MI 1 0 = 0 ∧ inR x 5 = true
      · have nq : ¬ (MI 1 0 = 0 ∨ ¬ inR x 5 = true) := fun z => z.elim q.1 (fun z => z q.2)
        rw [if_pos ((rIF_eq h.2.1).mpr q), if_neg nq]
      · have nq : MI 1 0 = 0 ∨ ¬ inR x 5 = true := by
          by_cases n1 : MI 1 0 = 0
          · exact Or.inl n1
          · exact Or.inr (fun z => q ⟨n1, z⟩)
        rw [if_neg (fun z => q ((rIF_eq h.2.1).mp z)), if_pos nq]
    rw [e] at c11
    refine two_an h (by decide) (by decide) c10 c11 rfl ?_
    unfold adN
    (repeat' split) <;> first | exact (show ¬ (0 : Int32) = 4 by decide) | exact (show ¬ (1 : Int32) = 4 by decide) | exact (show ¬ (2 : Int32) = 4 by decide) | exact (show ¬ (3 : Int32) = 4 by decide) | exact (show ¬ (5 : Int32) = 4 by decide) | exact funTr_4 | exact fewTr_4
end act4

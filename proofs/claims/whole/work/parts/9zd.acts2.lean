/-! looking anew: the invariant behind an ACT -/
def LkC (W : Mi) (B : Nat → Nat → Int64) (S A b bi bo : Nat) : Prop := b < S ∧ ∃ P : Nat → Nat → Int32, (∀ i, i < 8 → P i = W (4 + i)) ∧ (∃ q t, ((B 49, B 50), tgC W) = lkD P (W 2) S A (nI b) (nI bi) (nI bo) q t) ∧ (W 43 6 = 0 → ∀ i, i < A → ∀ c, 51 ≤ c → c ≤ 55 → W c i = dscV P (W 2) (tgC W) c i)
theorem LkC_cg {U W : Mi} {B D : Nat → Nat → Int64} {S A b bi bo : Nat} (g : ∀ q, q = 2 ∨ (4 ≤ q ∧ q ≤ 11) ∨ (43 ≤ q ∧ q ≤ 55) → W q = U q) (h1 : D 49 = B 49) (h2 : D 50 = B 50) (h : LkC U B S A b bi bo) : LkC W D S A b bi bo := by
  obtain ⟨v1, P, v2, ⟨q, t, v3⟩, v5⟩ := h
  have eC : tgC W = tgC U := by
    unfold tgC
    rw [g 46 (by omega), g 44 (by omega), g 45 (by omega), g 47 (by omega), g 43 (by omega)]
  refine ⟨v1, P, fun i hi => by rw [v2 i hi, g (4 + i) (by omega)], ⟨q, t, ?_⟩, ?_⟩
  · rw [h1, h2, eC, g 2 (by omega)]
    exact v3
  · rw [g 43 (by omega), eC, g 2 (by omega)]
    intro z i hi c c1 c2
    rw [g c (by omega)]
    exact v5 z i hi c c1 c2
theorem zs_row {M : Mi} {q : Nat} (h : q < 89 ∨ 123 < q) : zsM M 5 q = M q := by
  funext j
  unfold zsM
  rw [if_neg (by omega)]
section look2
variable {X : xG} {MI W W2 V M : Mi} {ML B D : Nat → Nat → Int64} {MR : Nat → Nat → Option Nat} {r : Nat → Nat} {S A Gn b K u bi bo w f : Nat} {x y : Int32}
theorem sa_row {q : Nat} (h : q < 43 ∨ (55 < q ∧ q < 60) ∨ (60 < q ∧ q < 85) ∨ 123 < q) : saM M ML S A q = M q := by
  unfold saM
  rw [u2_row _ _ (by omega), u2_row _ _ (by omega), u2_row _ _ (by omega), zs_row (by omega)]
  unfold lkM
  rw [laC_b _ (by omega)]
  split
  · rw [dsM_b (by omega)]
  · rfl
theorem sa_lk {q : Nat} (h : q ≠ 60) (h2 : q < 85) : saM M ML S A q = lkM M ML S A q := by
  unfold saM
  rw [u2_row _ _ (by omega), u2_row _ _ (by omega), u2_row _ _ (by omega), zs_row (by omega)]
theorem tgC_la {t : Tg} : tgC (laC M t) = t := rfl
theorem tgR_la {t : Tg} : tgR (laE M t) = t := rfl
theorem dp_eta (z : Dp × Tg) : ((z.1.1, z.1.2), z.2) = z := rfl
theorem sa_C : tgC (saM M ML S A) = (lkS M ML S A).2 := by
  unfold tgC
  rw [sa_lk (by decide) (by decide), sa_lk (by decide) (by decide), sa_lk (by decide) (by decide), sa_lk (by decide) (by decide), sa_lk (by decide) (by decide)]
  unfold lkM
  generalize (lkS M ML S A).2 = t
  exact tgC_la
/-- the class has looked -/
theorem lk_cls (hb : b < S) (hA : A ≤ 8) (h3 : M 1 3 = nI b) (h4 : M 1 4 = nI bi) (h5 : M 1 5 = nI bo) : LkC (saM M ML S A) (saL M ML S A) S A b bi bo := by
  refine ⟨hb, arP M, fun i hi => ?_, ⟨(ML 49, ML 50), tgC M, ?_⟩, fun z i hi c c1 c2 => ?_⟩
  · rw [sa_row (by omega)]
  · have e1 : saL M ML S A 49 = (lkS M ML S A).1.1 := by
      unfold saL layD
      rw [sr_ne _ _ (by decide), sr_eq]
    have e2 : saL M ML S A 50 = (lkS M ML S A).1.2 := by
      unfold saL layD
      rw [sr_eq]
    rw [sa_C, sa_row (by omega), ← h3, ← h4, ← h5, e1, e2, dp_eta]
    unfold lkS
    rfl
  · have e6 : (lkS M ML S A).2.2.2.2.2.1 = 0 := by rw [← sa_C]; exact z
    rw [sa_C, sa_row (q := 2) (by omega), sa_lk (by omega) (by omega)]
    unfold lkM
    rw [laC_b _ (by omega), if_pos e6]
    unfold dsM
    rw [if_pos ⟨c1, c2, hi⟩]
theorem sa_shI (h : ∀ f, f < 5 → M (89 + 7 * f) 0 = nI f) : shI (saM M ML S A) D A := fun f hf => by
  have e : ∀ j, saM M ML S A (89 + 7 * f) j = zsM (lkM M ML S A) 5 (89 + 7 * f) j := fun j => by
    unfold saM
    rw [u2_row _ _ (by omega), u2_row _ _ (by omega), u2_row _ _ (by omega)]
  refine ⟨?_, Or.inl ?_⟩
  · rw [e]
    unfold zsM
    rw [if_neg (by omega)]
    unfold lkM
    rw [laC_b _ (by omega)]
    split
    · rw [dsM_b (by omega)]; exact h f hf
    · exact h f hf
  · rw [e]
    unfold zsM
    rw [if_pos (by omega)]
theorem sa_60 : saM M ML S A 60 5 = 0 := by
  unfold saM
  rw [u2_ne _ _ (by omega), u2_ne _ _ (by omega)]
  exact u2_eq _ _ _ _
theorem sa_85 : saM M ML S A 85 1 = M 1 3 ∧ saM M ML S A 85 2 = 0 := by
  unfold saM
  refine ⟨?_, u2_eq _ _ _ _⟩
  rw [u2_ne _ _ (by omega)]
  exact u2_eq _ _ _ _
theorem Ig_0 (h : W 60 5 = 0) : Ig W A S := fun N n1 n2 n3 => by
  rw [h] at n3
  have q := congrArg Int32.toNatClampNeg n3
  rw [nI_clamp (by omega)] at q
  have z : (0 : Int32).toNatClampNeg = 0 := by decide
  omega
/-- the reference looks anew -/
theorem lko_row {q : Nat} (h : q ≠ 124) (h2 : q < 133 ∨ 136 < q) (h3 : q ≠ 140) (h4 : q ≠ 141) : rfM (lkoM W B S A b) x q = W q := by
  rw [rf_rows h]
  unfold lkoM
  rw [u2_row _ _ h, u2_row _ _ h]
  have : zkM (laE W (lkoS W B S A b).2) 5 q = laE W (lkoS W B S A b).2 q := by
    funext j
    unfold zkM
    rw [if_neg (by omega)]
  rw [this, laE_b _ h h2]
theorem lko_col {j : Nat} (h : 3 ≤ j ∨ j = 0) (h2 : j ≠ 27) (h3 : j ≠ 28) (h4 : j ≠ 46) (h5 : j ≠ 47) : rfM (lkoM W B S A b) x 124 j = W 124 j := by
  unfold rfM lkoM
  rw [u2_ne _ _ (by omega), u2_ne _ _ (by omega), u2_ne _ _ (by omega), u2_ne _ _ (by omega)]
  unfold zkM
  rw [if_neg (by omega)]
  unfold laE
  rw [if_neg (by decide), if_neg (by decide), if_neg (by decide), if_neg (by decide), if_neg (by omega), if_neg (by omega)]
theorem lko_R : tgR (rfM (lkoM W B S A b) x) = (lkoS W B S A b).2 := by
  have e : ∀ q, q ≠ 124 → q ≠ 140 → q ≠ 141 → rfM (lkoM W B S A b) x q = laE W (lkoS W B S A b).2 q := fun q z1 z2 z3 => by
    rw [rf_rows z1]
    unfold lkoM
    rw [u2_row _ _ z1, u2_row _ _ z1]
    funext j
    unfold zkM
    rw [if_neg (by omega)]
  have ej : ∀ j, j = 27 ∨ j = 28 → rfM (lkoM W B S A b) x 124 j = laE W (lkoS W B S A b).2 124 j := fun j hj => by
    unfold rfM lkoM
    rw [u2_ne _ _ (by omega), u2_ne _ _ (by omega), u2_ne _ _ (by omega), u2_ne _ _ (by omega)]
    unfold zkM
    rw [if_neg (by omega)]
  unfold tgR
  rw [e 133 (by decide) (by decide) (by decide), e 135 (by decide) (by decide) (by decide), e 136 (by decide) (by decide) (by decide), e 134 (by decide) (by decide) (by decide), ej 27 (by omega), ej 28 (by omega)]
  generalize (lkoS W B S A b).2 = t
  exact tgR_la
theorem inv_ref (hL : x_Lay MR ∧ x_Rw MR r) (hT : tabOK (B 58) ∧ tabOK (B 125) ∧ muOK W) (hIt : It W u) (hIc : Ic W S A Gn b K u) (hIi : Ii W bi bo) (hIm : Im W S A Gn) (hIa : Ia W r S A Gn K) (hv : LkC W B S A b bi bo) (hs : shI W B A) (hg : Ig W A S) (hk : W 85 1 = nI b ∧ W 85 2 = 0) (h8 : W 0 8 = 0) (h9 : W 0 9 = W 124 12) : Inv (rfM (lkoM W B S A b) 0) (lkoL W B S A b) MR r S A Gn b K u bi bo b := by
  have hA : A ≤ 8 := hIc.2.2.1.2.1
  have hS : S ≤ 6 := hIc.2.2.1.1
  have hK : K ≤ 12 := hIc.2.2.1.2.2.2.1
  obtain ⟨V, hV⟩ : ∃ V, V = rfM (lkoM W B S A b) 0 := ⟨_, rfl⟩
  have o : ∀ q, q ≠ 124 → q < 133 ∨ 136 < q → q ≠ 140 → q ≠ 141 → V q = W q := fun q z1 z2 z3 z4 => by rw [hV]; exact lko_row z1 z2 z3 z4
  have oj : ∀ j, 3 ≤ j ∨ j = 0 → j ≠ 27 → j ≠ 28 → j ≠ 46 → j ≠ 47 → V 124 j = W 124 j := fun j z1 z2 z3 z4 z5 => by rw [hV]; exact lko_col z1 z2 z3 z4 z5
  have eB : ∀ c, c ≠ 137 → c ≠ 138 → lkoL W B S A b c = B c := fun c z1 z2 => by
    unfold lkoL layD
    rw [sr_ne _ _ z1, sr_ne _ _ z2]
  have eR : tgR V = (lkoS W B S A b).2 := by rw [hV]; exact lko_R
  have hrow : ∀ q, q < 124 → V q = W q := fun q z => o q (by omega) (by omega) (by omega) (by omega)
  have hl : lvE S A Gn (W 2) (V 2) (arP W) (arP V) (W 12) (V 12) (W 13) (V 13) := lvE_rows hA (hrow 2 (by decide)) (fun i hi => hrow (4 + i) (by omega)) (hrow 12 (by decide)) (hrow 13 (by decide))
  have v1 : V 124 1 = 0 := by rw [hV]; exact rf_1
  have v2 : V 124 2 = -1 := by rw [hV]; exact rf_2
  have e128 : V 128 = W 128 := o 128 (by decide) (by omega) (by decide) (by decide)
  have e130 : V 130 = W 130 := o 130 (by decide) (by omega) (by decide) (by decide)
  have v46 : V 124 46 = nI b ∧ V 124 47 = 0 := by
    rw [hV]
    unfold rfM lkoM
    refine ⟨?_, ?_⟩
    · rw [u2_ne _ _ (by omega), u2_ne _ _ (by omega), u2_ne _ _ (by omega)]; exact u2_eq _ _ _ _
    · rw [u2_ne _ _ (by omega), u2_ne _ _ (by omega)]; exact u2_eq _ _ _ _
  rw [← hV]
  refine ⟨hL, ⟨⟨?_, ?_, ?_⟩, It_cg hIt ?_ ?_ ?_ ?_, Ic_cg hIc (hrow 1 (by decide)) (oj 20 (by omega) (by omega) (by omega) (by omega) (by omega)) e130 e128 ?_ (oj 19 (by omega) (by omega) (by omega) (by omega) (by omega)) ?_ (oj 6 (by omega) (by omega) (by omega) (by omega) (by omega)), ?_, ⟨mV_E hl hIm.1, ?_⟩, ?_, ?_, ?_⟩, ⟨?_, ?_, ?_⟩, ?_, ⟨fun f hf => ?_, fun f hf => ?_⟩, ?_⟩
  · rw [eB 58 (by decide) (by decide)]; exact hT.1
  · rw [eB 125 (by decide) (by decide)]; exact hT.2.1
  · unfold muOK; rw [o 126 (by decide) (by omega) (by decide) (by decide)]; exact hT.2.2
  · rw [hrow 14 (by decide)]
  · exact oj 6 (by omega) (by omega) (by omega) (by omega) (by omega)
  · exact hrow 15 (by decide)
  · exact o 127 (by decide) (by omega) (by decide) (by decide)
  · rw [hrow 29 (by decide)]
  · rw [hrow 14 (by decide)]
  · unfold Ii
    rw [hrow 1 (by decide), e130]
    exact hIi
  · rw [e128]
    exact vR_E hl hIm.2
  · refine Ch_cg K _ _ _ _ _ _ _ _ A Gn (fun k hk => ⟨fun j _ => ?_, fun j _ => ?_⟩) hl hS hIa
    · have := hL.2.2.1 k (by omega)
      rw [hrow (31 + r k) (by omega)]
    · show W 132 _ = V 132 _
      rw [o 132 (by decide) (by omega) (by decide) (by decide)]
  · intro _
    obtain ⟨l1, P, l2, l3, l5⟩ := LkC_cg (W := V) (D := lkoL W B S A b) (fun q hq => hrow q (by omega)) (eB 49 (by decide) (by decide)) (eB 50 (by decide) (by decide)) hv
    refine ⟨l1, P, l2, l3, ⟨(B 138, B 137), tgR W, ?_⟩, l5⟩
    have eA : arR V = arR W := by
      funext i j
      show V 128 _ = W 128 _
      rw [e128]
    rw [eR, eA, e128]
    have e8 : lkoL W B S A b 138 = (lkoS W B S A b).1.1 ∧ lkoL W B S A b 137 = (lkoS W B S A b).1.2 := by
      unfold lkoL layD
      refine ⟨?_, ?_⟩
      · rw [sr_ne _ _ (by decide), sr_eq]
      · rw [sr_eq]
    rw [e8.1, e8.2]
    unfold lkoS
    rw [hIi.2.1.2, hIi.2.2.2]
  · refine ⟨by have := hv.1; omega, fun _ => hv.1, ⟨?_, v46.1⟩, ?_, 0, by decide, ?_⟩
    · rw [hrow 85 (by decide)]; exact hk.1
    · rw [hrow 85 (by decide), hk.2, v46.2]
    · rw [hrow 85 (by decide), hk.2]; rfl
  · rw [hrow 0 (by decide), h8, v1]
  · rw [hrow 0 (by decide), h8, v2]; rfl
  · rw [hrow 0 (by decide), h9, oj 12 (by omega) (by omega) (by omega) (by omega) (by omega)]
  · refine shI_cg ⟨?_, fun c hc => hrow c (by omega), eB 49 (by decide) (by decide), eB 58 (by decide) (by decide)⟩ (fun c z1 z2 => ⟨hrow c (by omega), eB c (by omega) (by omega)⟩) hs
    rw [hrow 1 (by decide)]
  · left
    rw [hV, rf_rows (by decide)]
    unfold lkoM
    rw [u2_row _ _ (by decide), u2_row _ _ (by decide)]
    unfold zkM
    rw [if_pos ⟨Or.inl rfl, hf⟩]
  · left
    rw [hV, rf_rows (by decide)]
    unfold lkoM
    rw [u2_row _ _ (by decide), u2_row _ _ (by decide)]
    unfold zkM
    rw [if_pos ⟨Or.inr rfl, hf⟩]
  · exact Ig_cg hA (fun i hi => hrow _ (by omega)) (hrow _ (by decide)) (hrow _ (by decide)) (hrow _ (by decide)) (hrow _ (by decide)) hg
/-- an ACT is kept -/
theorem Ia_new {A2 G2 : Nat} (hS : S ≤ 6) (hK : K ≤ 12) (hR : x_Rw MR r) (hIa : Ia MI r S A Gn K) (hIm : Im MI S A Gn) (hrow : ∀ k, k < 12 → k ≠ frP K → W (31 + r k) = MI (31 + r k)) (h132 : W 132 = rmP (MI 132) (MI 128) K) (hF : rE Gn (MI 12) (W 12)) (hQ : rE Gn (MI 13) (W 13)) (hU : US S (W (31 + r (frP K))) (W 2) (arP W) A2 G2 (MI 2) (arP MI) A Gn) : Ia W (frG r K) S A2 G2 (frK K + 1) := by
  have eg : frG r K (frK K) = r (frP K) := by
    unfold frG frK frP
    by_cases z : K < 12
    · rw [if_pos z, if_pos z, if_pos z]
    · rw [if_neg z, if_neg z, if_neg z, if_neg (by omega), if_pos rfl]
  refine Ch_new hS hK hIa hIm.1 hF hQ (fun k hk j _ => ?_) (fun k hk j hj => ?_) ?_ ?_
  · unfold frG
    unfold frK at hk
    by_cases z : K < 12
    · rw [if_pos z] at hk
      rw [if_pos z, if_pos z, hrow k (by omega) (by unfold frP; rw [if_pos z]; omega)]
    · rw [if_neg z] at hk
      rw [if_neg z, if_neg z, if_pos hk, hrow (k + 1) (by omega) (by unfold frP; rw [if_neg z]; omega)]
  · show W 132 (88 * k + j) = _
    rw [h132]
    unfold rmP
    rw [if_neg (by omega)]
    unfold frK at hk
    by_cases z : K < 12
    · rw [if_pos z, if_pos z]
    · rw [if_neg z] at hk
      rw [if_neg z, if_neg z, if_pos (by omega)]
      show MI 132 _ = MI 132 _
      rw [show 88 * k + j + 88 = 88 * (k + 1) + j by omega]
  · have e : ∀ j, j < 88 → W 132 (88 * frK K + j) = MI 128 j := fun j hj => by
      rw [h132]
      unfold rmP
      rw [if_pos (by omega), show 88 * frK K + j - 88 * frK K = j by omega]
    obtain ⟨m1, m2⟩ := hIm
    have hA := m1.1
    have hG := m1.2.1
    have hE : lvE S A Gn (MI 2) (MI 2) (arP MI) (arP MI) (MI 12) (W 12) (MI 13) (W 13) := ⟨fun _ _ => rfl, fun _ _ _ _ => rfl, hF, hQ⟩
    obtain ⟨q1, q2, q3, q4, q5⟩ := vR_E hE m2
    refine ⟨?_, ?_, fun s hs => ?_, fun i hi j hj => ?_, fun g hg => ⟨?_, ?_⟩⟩
    · show W 132 (88 * frK K + 6) = _
      rw [e 6 (by decide)]; exact q1
    · show W 132 (88 * frK K + 55) = _
      rw [e 55 (by decide)]; exact q2
    · show W 132 (88 * frK K + s) = _
      rw [e s (by omega)]; exact q3 s hs
    · show W 132 (88 * frK K + (7 + 6 * i + j)) = _
      rw [e _ (by omega)]; exact q4 i hi j hj
    · show W 132 (88 * frK K + (56 + 2 * g)) = _
      rw [e _ (by omega)]; exact (q5 g hg).1
    · show W 132 (88 * frK K + (57 + 2 * g)) = _
      rw [e _ (by omega)]; exact (q5 g hg).2
  · show US S (W (31 + frG r K (frK K))) _ _ _ _ _ _ _ _
    rw [eg]
    exact hU
end look2

/-! the invariant between the class's cells and the reference's -/
/-- what the caches and the calls' own cells leave alone -/
def Fr (MI W : Mi) (ML B : Nat → Nat → Int64) : Prop := (∀ b, b ≠ 0 → b ≠ 56 → ¬ (60 ≤ b ∧ b ≤ 84) → ¬ (86 ≤ b ∧ b ≤ 124) → b ≤ 138 → W b = MI b) ∧ W 0 9 = MI 0 9 ∧ (∀ j, 3 ≤ j → j ≠ 32 → ¬ (43 ≤ j ∧ j ≤ 45) → j ≠ 52 → W 124 j = MI 124 j) ∧ ∀ b, b ≤ 58 ∨ (124 ≤ b ∧ b ≤ 138) → B b = ML b
theorem Fr_tr {MI W V : Mi} {ML B D : Nat → Nat → Int64} (h1 : Fr MI W ML B) (h2 : Fr W V B D) : Fr MI V ML D :=
  ⟨fun b z1 z2 z3 z4 z5 => (h2.1 b z1 z2 z3 z4 z5).trans (h1.1 b z1 z2 z3 z4 z5), h2.2.1.trans h1.2.1, fun j z1 z2 z3 z4 => (h2.2.2.1 j z1 z2 z3 z4).trans (h1.2.2.1 j z1 z2 z3 z4), fun b z => (h2.2.2.2 b z).trans (h1.2.2.2 b z)⟩
def Ii (MI : Mi) (bi bo : Nat) : Prop := (bi < 16 ∧ bo < 8) ∧ (MI 1 4 = nI bi ∧ MI 130 2 = nI bi) ∧ MI 1 5 = nI bo ∧ MI 130 3 = nI bo
def Im (MI : Mi) (S A Gn : Nat) : Prop := mV S A Gn (MI 2) (arP MI) (MI 12) (MI 13) ∧ vR S A Gn (MI 2) (arP MI) (MI 12) (MI 13) (MI 128)
def Ia (MI : Mi) (r : Nat → Nat) (S A Gn K : Nat) : Prop := Ch S (MI 12) (MI 13) K (fun k => MI (31 + r k)) (fun k j => MI 132 (88 * k + j)) (MI 2) (arP MI) A Gn
def Iv (MI : Mi) (ML : Nat → Nat → Int64) (S A b bi bo : Nat) : Prop := MI 1 0 = 1 → b < S ∧ ∃ P : Nat → Nat → Int32, (∀ i, i < 8 → P i = MI (4 + i)) ∧ (∃ q t, ((ML 49, ML 50), tgC MI) = lkD P (MI 2) S A (nI b) (nI bi) (nI bo) q t) ∧ (∃ q t, ((ML 138, ML 137), tgR MI) = lkR (arR MI) (MI 128) S A (nI b) (nI bi) (nI bo) q t) ∧ (MI 43 6 = 0 → ∀ i, i < A → ∀ c, 51 ≤ c → c ≤ 55 → MI c i = dscV P (MI 2) (tgC MI) c i)
def Ik (MI : Mi) (S w : Nat) : Prop := w < 6 ∧ (MI 1 0 = 1 → w < S) ∧ (MI 85 1 = nI w ∧ MI 124 46 = nI w) ∧ MI 85 2 = MI 124 47 ∧ ∃ c, c < 16 ∧ MI 85 2 = nI c
def Ig (MI : Mi) (A S : Nat) : Prop := ∀ N, 0 < N → N ≤ 4 → MI 60 5 = nI N → ∀ (I' O' V' : Nat → Int32) (Q : Nat → Nat → Int32) (q : Dp), rE S (MI 44) I' → rE S (MI 45) O' → PE (arP MI) Q A → MI 60 4 = nI (owy (okT I' O' V' Q S A N q) (N ^ S)) ∧ ∀ t, (List.range (N ^ S)).find? (okT I' O' V' Q S A N q) = some t → ∀ j, j < S → MI 63 j = nI (odg N S t j)
def B3 (MI : Mi) (ML : Nat → Nat → Int64) (r : Nat → Nat) (S A Gn b K bi bo w : Nat) : Prop := Ii MI bi bo ∧ Im MI S A Gn ∧ Ia MI r S A Gn K ∧ Iv MI ML S A b bi bo ∧ Ik MI S w
def Bs (MI : Mi) (ML : Nat → Nat → Int64) (r : Nat → Nat) (S A Gn b K u bi bo w : Nat) : Prop := (tabOK (ML 58) ∧ tabOK (ML 125) ∧ muOK MI) ∧ It MI u ∧ Ic MI S A Gn b K u ∧ B3 MI ML r S A Gn b K bi bo w
/-- what B3 knows -/
def Fr0 (MI W : Mi) (ML B : Nat → Nat → Int64) : Prop := (∀ b, 1 ≤ b → b ≤ 55 → b ≠ 14 → b ≠ 15 → b ≠ 29 → W b = MI b) ∧ (∀ b, 128 ≤ b → b ≤ 138 → W b = MI b) ∧ W 85 = MI 85 ∧ (∀ j, j = 27 ∨ j = 28 ∨ j = 46 ∨ j = 47 → W 124 j = MI 124 j) ∧ ∀ b, b = 49 ∨ b = 50 ∨ b = 137 ∨ b = 138 → B b = ML b
theorem It_cg {MI W : Mi} {u : Nat} (h : It MI u) (h1 : W 14 1 = MI 14 1) (h2 : W 124 6 = MI 124 6) (h3 : W 15 = MI 15) (h4 : W 127 = MI 127) : It W u := by
  unfold It
  rw [h1, h2, h3, h4]
  exact h
theorem lvE_rows {MI W : Mi} {S A Gn : Nat} (hA : A ≤ 8) (h2 : W 2 = MI 2) (h4 : ∀ i, i < 8 → W (4 + i) = MI (4 + i)) (h12 : W 12 = MI 12) (h13 : W 13 = MI 13) : lvE S A Gn (MI 2) (W 2) (arP MI) (arP W) (MI 12) (W 12) (MI 13) (W 13) := by
  refine ⟨fun s _ => by rw [h2], fun i hi j _ => ?_, fun g _ => by rw [h12], fun g _ => by rw [h13]⟩
  show MI (4 + i) j = W (4 + i) j
  rw [h4 i (by omega)]
theorem B4_Fr {MI W : Mi} {ML B : Nat → Nat → Int64} {r : Nat → Nat} {S A Gn b K bi bo w : Nat} (hr : ∀ k, k < 12 → r k < 12) (hA : A ≤ 8) (hK : K ≤ 12) (hS : S ≤ 6) (g : ∀ b, 1 ≤ b → b ≤ 55 → b ≠ 14 → b ≠ 15 → b ≠ 29 → W b = MI b) (g2 : ∀ b, 128 ≤ b → b ≤ 138 → W b = MI b) (k24 : ∀ j, j = 27 ∨ j = 28 → W 124 j = MI 124 j) (f4 : ∀ b, b = 49 ∨ b = 50 ∨ b = 137 ∨ b = 138 → B b = ML b) (h : B3 MI ML r S A Gn b K bi bo w) : Ii W bi bo ∧ Im W S A Gn ∧ Ia W r S A Gn K ∧ Iv W B S A b bi bo := by
  obtain ⟨hIi, ⟨m1, m2⟩, hIa, hIv, hIk⟩ := h
  have hl : lvE S A Gn (MI 2) (W 2) (arP MI) (arP W) (MI 12) (W 12) (MI 13) (W 13) := lvE_rows hA (g 2 (by omega) (by omega) (by omega) (by omega) (by omega)) (fun i hi => g (4 + i) (by omega) (by omega) (by omega) (by omega) (by omega)) (g 12 (by omega) (by omega) (by omega) (by omega) (by omega)) (g 13 (by omega) (by omega) (by omega) (by omega) (by omega))
  have e1 : W 1 = MI 1 := g 1 (by omega) (by omega) (by omega) (by omega) (by omega)
  have e2 : W 2 = MI 2 := g 2 (by omega) (by omega) (by omega) (by omega) (by omega)
  have e43 : W 43 = MI 43 := g 43 (by omega) (by omega) (by omega) (by omega) (by omega)
  have e8 : W 128 = MI 128 := g2 128 (by omega) (by omega)
  refine ⟨?_, ⟨mV_E hl m1, ?_⟩, ?_, ?_⟩
  · unfold Ii
    rw [e1, g2 130 (by omega) (by omega)]
    exact hIi
  · rw [e8]
    exact vR_E hl m2
  · refine Ch_cg K _ _ _ _ _ _ _ _ A Gn (fun k hk => ⟨fun j _ => ?_, fun j _ => ?_⟩) hl hS hIa
    · have := hr k (by omega)
      rw [g (31 + r k) (by omega) (by omega) (by omega) (by omega) (by omega)]
    · show MI 132 _ = W 132 _
      rw [g2 132 (by omega) (by omega)]
  · intro h1
    rw [e1] at h1
    obtain ⟨v1, P, v2, ⟨q, t, v3⟩, ⟨q', t', v4⟩, v5⟩ := hIv h1
    have eC : tgC W = tgC MI := by
      unfold tgC
      rw [g 46 (by omega) (by omega) (by omega) (by omega) (by omega), g 44 (by omega) (by omega) (by omega) (by omega) (by omega), g 45 (by omega) (by omega) (by omega) (by omega) (by omega), g 47 (by omega) (by omega) (by omega) (by omega) (by omega), e43]
    have eR : tgR W = tgR MI := by
      unfold tgR
      rw [g2 133 (by omega) (by omega), g2 135 (by omega) (by omega), g2 136 (by omega) (by omega), g2 134 (by omega) (by omega), k24 27 (by omega), k24 28 (by omega)]
    have eA : arR W = arR MI := by
      funext i j
      show W 128 _ = MI 128 _
      rw [e8]
    refine ⟨v1, P, fun i hi => by rw [v2 i hi, g (4 + i) (by omega) (by omega) (by omega) (by omega) (by omega)], ⟨q, t, ?_⟩, ⟨q', t', ?_⟩, ?_⟩
    · rw [f4 49 (by omega), f4 50 (by omega), eC, e2]
      exact v3
    · rw [f4 138 (by omega), f4 137 (by omega), eR, eA, e8]
      exact v4
    · rw [e43, eC, e2]
      intro z i hi c c1 c2
      rw [g c (by omega) (by omega) (by omega) (by omega) (by omega)]
      exact v5 z i hi c c1 c2
theorem B3_Fr {MI W : Mi} {ML B : Nat → Nat → Int64} {r : Nat → Nat} {S A Gn b K bi bo w : Nat} (hr : ∀ k, k < 12 → r k < 12) (hA : A ≤ 8) (hK : K ≤ 12) (hS : S ≤ 6) (hF : Fr0 MI W ML B) (h : B3 MI ML r S A Gn b K bi bo w) : B3 W B r S A Gn b K bi bo w := by
  obtain ⟨g, g2, g85, k24, f4⟩ := hF
  obtain ⟨b1, b2, b3, b4⟩ := B4_Fr (W := W) (B := B) hr hA hK hS g g2 (fun j hj => k24 j (by omega)) f4 h
  refine ⟨b1, b2, b3, b4, ?_⟩
  unfold Ik
  rw [g85, k24 46 (by omega), k24 47 (by omega), g 1 (by omega) (by omega) (by omega) (by omega) (by omega)]
  exact h.2.2.2.2
theorem Bs_Fr {MI W : Mi} {ML B : Nat → Nat → Int64} {r : Nat → Nat} {S A Gn b K u bi bo w : Nat} (hr : ∀ k, k < 12 → r k < 12) (hF : Fr MI W ML B) (h : Bs MI ML r S A Gn b K u bi bo w) : Bs W B r S A Gn b K u bi bo w := by
  obtain ⟨f1, f2, f3, f4⟩ := hF
  obtain ⟨⟨t1, t2, t3⟩, hIt, hIc, h3⟩ := h
  have g : ∀ b, 1 ≤ b → b ≤ 55 → W b = MI b := fun b z1 z2 => f1 b (by omega) (by omega) (by omega) (by omega) (by omega)
  have g2 : ∀ b, 125 ≤ b → b ≤ 138 → W b = MI b := fun b z1 z2 => f1 b (by omega) (by omega) (by omega) (by omega) (by omega)
  have k24 : ∀ j, j = 6 ∨ j = 19 ∨ j = 20 ∨ j = 27 ∨ j = 28 ∨ j = 46 ∨ j = 47 → W 124 j = MI 124 j := fun j hj => f3 j (by omega) (by omega) (by omega) (by omega)
  refine ⟨⟨?_, ?_, ?_⟩, It_cg hIt ?_ ?_ ?_ ?_, Ic_cg hIc (g 1 (by omega) (by omega)) (k24 _ (by omega)) (g2 _ (by omega) (by omega)) (g2 _ (by omega) (by omega)) ?_ (k24 _ (by omega)) ?_ (k24 _ (by omega)), B3_Fr hr hIc.2.2.1.2.1 hIc.2.2.1.2.2.2.1 hIc.2.2.1.1 ⟨fun b z1 z2 _ _ _ => g b z1 z2, fun b z1 z2 => g2 b (by omega) z2, f1 85 (by omega) (by omega) (by omega) (by omega) (by omega), fun j hj => k24 j (by omega), fun b hb => f4 b (by omega)⟩ h3⟩
  · rw [f4 58 (by omega)]; exact t1
  · rw [f4 125 (by omega)]; exact t2
  · unfold muOK; rw [g2 126 (by omega) (by omega)]; exact t3
  · rw [g 14 (by omega) (by omega)]
  · exact k24 _ (by omega)
  · exact g 15 (by omega) (by omega)
  · exact g2 127 (by omega) (by omega)
  · rw [g 29 (by omega) (by omega)]
  · rw [g 14 (by omega) (by omega)]
/-- arcs as they may be -/
theorem arcs_ok {S A : Nat} {P : Nat → Nat → Int32} (h : ∀ i, i < A → arcV S (P i)) : okA P A S ∧ okB P A := by
  refine ⟨fun i hi => ?_, fun i hi => ?_⟩
  · obtain ⟨f, g, u, v, o, p, h1, h2, h3, h4, h5, h6, q0, q1, -⟩ := h i hi
    exact ⟨⟨f, h1, q0⟩, ⟨g, h2, q1⟩⟩
  · obtain ⟨f, g, u, v, o, p, h1, h2, h3, h4, h5, h6, q0, q1, q2, q3, q4, q5⟩ := h i hi
    refine ⟨⟨u ||| v, Nat.or_lt_two_pow (n := 4) h3 h4, ?_⟩, ⟨o ||| p, Nat.or_lt_two_pow (n := 3) h5 h6, ?_⟩⟩
    · rw [q2, q3, nI_or]
    · rw [q4, q5, nI_or]
theorem vR_PE {S A Gn : Nat} {C : Nat → Int32} {P : Nat → Nat → Int32} {F Q : Nat → Int32} {MI : Mi} (h : vR S A Gn C P F Q (MI 128)) : PE P (arR MI) A := fun i hi j hj => (h.2.2.2.1 i hi j hj).symm
theorem okA_PE {P Q : Nat → Nat → Int32} {A S : Nat} (h : okA P A S) (e : PE P Q A) : okA Q A S := fun i hi => by
  rw [← e i hi 0 (by decide), ← e i hi 1 (by decide)]
  exact h i hi
theorem okB_PE {P Q : Nat → Nat → Int32} {A : Nat} (h : okB P A) (e : PE P Q A) : okB Q A := fun i hi => by
  rw [← e i hi 2 (by decide), ← e i hi 3 (by decide), ← e i hi 4 (by decide), ← e i hi 5 (by decide)]
  exact h i hi
theorem fitT_PE {P Q : Nat → Nat → Int32} {A S : Nat} {I O : Nat → Int32} (h : fitT P A S I O) (e : PE P Q A) : fitT Q A S I O := ⟨h.1, fun i hi => by
  rw [← e i hi 0 (by decide), ← e i hi 1 (by decide), ← e i hi 2 (by decide), ← e i hi 3 (by decide), ← e i hi 4 (by decide), ← e i hi 5 (by decide)]
  exact h.2 i hi⟩
theorem dscV_row {P Q : Nat → Nat → Int32} {C : Nat → Int32} {t : Tg} {c i : Nat} (e : P i = Q i) : dscV P C t c i = dscV Q C t c i := by
  unfold dscV
  rw [e]
/-- what a told machine has -/
theorem Bs_use {MI : Mi} {ML : Nat → Nat → Int64} {r : Nat → Nat} {S A Gn b K u bi bo w : Nat} (h : Bs MI ML r S A Gn b K u bi bo w) (h1 : MI 1 0 = 1) : tgE (tgC MI) (tgR MI) ∧ (MI 43 6 = 0 → lnk MI A S b ∧ Dg ML) ∧ (MI 43 6 = 0 ∨ ¬ ev4 (tgC MI) → (∀ s, s < S → ¬ MI 46 s = 0) ∧ fitT (arP MI) A S (MI 44) (MI 45)) ∧ (ev4 (tgC MI) ∨ MI 43 6 = 5 ∨ MI 43 6 = 6) := by
  obtain ⟨-, -, hIc, hIi, ⟨m1, m2⟩, -, hIv, -⟩ := h
  obtain ⟨v1, P, v2, ⟨q, t, v3⟩, ⟨q', t', v4⟩, v5⟩ := hIv h1
  have hA : A ≤ 8 := hIc.2.2.1.2.1
  have hS : S ≤ 6 := hIc.2.2.1.1
  obtain ⟨a1, a2⟩ := arcs_ok m1.2.2.2.1
  have ePA : PE (arP MI) P A := fun i hi j _ => by rw [v2 i (by omega)]
  have eAP : PE P (arP MI) A := fun i hi j _ => by rw [v2 i (by omega)]
  have ePR : PE P (arR MI) A := fun i hi j hj => by rw [v2 i (by omega)]; exact vR_PE m2 i hi j hj
  have hC : okC (MI 2) S := m1.2.2.1
  have eC : rE S (MI 2) (MI 128) := fun s hs => (m2.2.2.1 s hs).symm
  obtain ⟨l1, l2, l3, l4, l5⟩ := look_E hA hS ePR (okA_PE a1 ePA) (okB_PE a2 ePA) (show b < 6 by omega) hIi.1.1 hIi.1.2 hC eC q q' t t' v3 v4
  have f3 : MI 43 6 = 0 ∨ ¬ ev4 (tgC MI) → (∀ s, s < S → ¬ MI 46 s = 0) ∧ fitT (arP MI) A S (MI 44) (MI 45) := fun z => ⟨(l3 z).1, fitT_PE (l3 z).2 eAP⟩
  refine ⟨l1, fun z => ?_, f3, l4⟩
  have hf := f3 (Or.inl z)
  have el1 : rE S (MI 44) (MI 135) := fun s hs => (l1.2.1 s (by omega) (hf.1 s hs)).1
  have el2 : rE S (MI 45) (MI 136) := fun s hs => (l1.2.1 s (by omega) (hf.1 s hs)).2
  refine ⟨⟨hA, hS, v1, hIc.2.2.2.2.2.2.1.1, vR_PE m2, a2, hf.2, hC, el1, el2, eC, fun i hi c c1 c2 => ?_⟩, fun k hk => ?_⟩
  · rw [v5 z i hi c c1 c2]
    exact dscV_row (v2 i (by omega))
  · obtain ⟨d1, d2⟩ := l2 z k hk
    refine ⟨d1, d2, ?_⟩
    obtain ⟨u1, u3, u4⟩ := l5 z
    have hn := no_clash hS (okA_PE a1 ePA) (okB_PE a2 ePA) (l3 (Or.inl z)).2 hC q u1 u4
    have u3' : ((ML 49, ML 50) : Dp) = (clL (fun i => demA (tgC MI).2.1 (tgC MI).2.2.1 (MI 2) (P i 0) (P i 1) (P i 2 ||| P i 3)) A 0 (stL (tgC MI).2.1 (tgC MI).2.2.1 (MI 2) S (zDp q))).1 := u3
    rw [← u3'] at hn
    exact Classical.byContradiction fun zz => hn (clashV_t.mpr ⟨k, hk, zz⟩)
def Inv (MI : Mi) (ML : Nat → Nat → Int64) (MR : Nat → Nat → Option Nat) (r : Nat → Nat) (S A Gn b K u bi bo w : Nat) : Prop := (x_Lay MR ∧ x_Rw MR r) ∧ Bs MI ML r S A Gn b K u bi bo w ∧ Iw MI ∧ shI MI ML A ∧ rCc MI ML A b MI ∧ Ig MI A S
def InvE (MI : Mi) (ML : Nat → Nat → Int64) (MR : Nat → Nat → Option Nat) : Prop := ∃ r S A Gn b K u bi bo w, Inv MI ML MR r S A Gn b K u bi bo w

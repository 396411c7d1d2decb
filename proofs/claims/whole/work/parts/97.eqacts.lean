/-! class and reference agree: ACTS, UNDO -/
/-- no clash, where nothing is BAD -/
theorem no_clash {P : Nat → Nat → Int32} {A S : Nat} {I O C : Nat → Int32} (hS6 : S ≤ 6) (hP : okA P A S) (hB : okB P A) (hF : fitT P A S I O) (hC : okC C S) (q : Dp) (hu : unlO I O C S = none) (hc : (clL (fun i => demA I O C (P i 0) (P i 1) (P i 2 ||| P i 3)) A 0 (stL I O C S (zDp q))).2 = none) : ¬ clashV (clL (fun i => demA I O C (P i 0) (P i 1) (P i 2 ||| P i 3)) A 0 (stL I O C S (zDp q))).1.1 (clL (fun i => demA I O C (P i 0) (P i 1) (P i 2 ||| P i 3)) A 0 (stL I O C S (zDp q))).1.2 = true := by
  have hPP : PE P P A := fun _ _ _ _ => rfl
  have hrr : ∀ F : Nat → Int32, rE S F F := fun _ _ _ => rfl
  obtain ⟨-, e2⟩ := clA_E hS6 hPP hB hF hC (hrr I) (hrr O) (hrr C) q q
  have hg := (ok_gd hS6 hP hPP hB hF hC (hrr I) (hrr O) (hrr C) q).mp ⟨hu, e2 ▸ hc⟩
  intro hcl
  obtain ⟨j, hj, x, hx, h1, h2⟩ := clash_iff.mp hcl
  have all : ∀ i, i < A → ∃ m, m < S ∧ maxI (P i 0) (P i 1) = nI m := fun i hi => by
    obtain ⟨⟨f, hf, ef⟩, ⟨g, hg, eg⟩⟩ := hP i hi
    exact ⟨if f < g then g else f, by split <;> omega, by rw [ef, eg, maxI_n (by omega) (by omega)]⟩
  have up : ∀ c, gbD c (clL (fun i => demA I O C (P i 0) (P i 1) (P i 2 ||| P i 3)) A 0 (stL I O C S (zDp q))).1 j x → gbD c (lvD I O P A S C) j x := fun c z => by
    rw [clL_iff hj A 0 _ hc, stL_iff hj] at z
    rw [lvD_iff hj]
    rcases z with (z | z) | ⟨m, m1, m2, z⟩
    · exact absurd z (zDp_0 hj)
    · exact Or.inl z
    · exact Or.inr ⟨m, by omega, all m (by omega), z⟩
  exact hg (clash_iff.mpr ⟨j, hj, x, hx, up _ h1, up _ h2⟩)
/-! the machine: codes C, arcs P, gates F and Q -/
def arcV (S : Nat) (F : Nat → Int32) : Prop := ∃ f g u v o p, f < S ∧ g < S ∧ u < 16 ∧ v < 16 ∧ o < 8 ∧ p < 8 ∧ F 0 = nI f ∧ F 1 = nI g ∧ F 2 = nI u ∧ F 3 = nI v ∧ F 4 = nI o ∧ F 5 = nI p
/-- as it may be -/
def mV (S A G : Nat) (C : Nat → Int32) (P : Nat → Nat → Int32) (F Q : Nat → Int32) : Prop := A ≤ 8 ∧ G ≤ 16 ∧ okC C S ∧ (∀ i, i < A → arcV S (P i)) ∧ ∀ g, g < G → ∃ f c, f < 5 ∧ c < 729 ∧ F g = nI f ∧ Q g = nI c
/-- a row of the reference has it -/
def vR (S A G : Nat) (C : Nat → Int32) (P : Nat → Nat → Int32) (F Q : Nat → Int32) (v : Nat → Int32) : Prop := v 6 = nI A ∧ v 55 = nI G ∧ (∀ s, s < S → v s = C s) ∧ (∀ i, i < A → ∀ j, j < 6 → v (7 + 6 * i + j) = P i j) ∧ ∀ g, g < G → v (56 + 2 * g) = F g ∧ v (57 + 2 * g) = Q g
/-- rows agree as far as they live -/
def lvE (S A G : Nat) (C C' : Nat → Int32) (P P' : Nat → Nat → Int32) (F F' Q Q' : Nat → Int32) : Prop := rE S C C' ∧ PE P P' A ∧ rE G F F' ∧ rE G Q Q'
theorem mV_E {S A G : Nat} {C C' : Nat → Int32} {P P' : Nat → Nat → Int32} {F F' Q Q' : Nat → Int32} (h : lvE S A G C C' P P' F F' Q Q') (m : mV S A G C P F Q) : mV S A G C' P' F' Q' := by
  obtain ⟨e1, e2, e3, e4⟩ := h
  obtain ⟨m1, m2, m3, m4, m5⟩ := m
  refine ⟨m1, m2, fun s hs => ?_, fun i hi => ?_, fun g hg => ?_⟩
  · rw [← e1 s hs]; exact m3 s hs
  · obtain ⟨f, g, u, v, o, p, h1, h2, h3, h4, h5, h6, q0, q1, q2, q3, q4, q5⟩ := m4 i hi
    refine ⟨f, g, u, v, o, p, h1, h2, h3, h4, h5, h6, ?_, ?_, ?_, ?_, ?_, ?_⟩
    · rw [← e2 i hi 0 (by decide)]; exact q0
    · rw [← e2 i hi 1 (by decide)]; exact q1
    · rw [← e2 i hi 2 (by decide)]; exact q2
    · rw [← e2 i hi 3 (by decide)]; exact q3
    · rw [← e2 i hi 4 (by decide)]; exact q4
    · rw [← e2 i hi 5 (by decide)]; exact q5
  · rw [← e3 g hg, ← e4 g hg]; exact m5 g hg
theorem vR_E {S A G : Nat} {C C' : Nat → Int32} {P P' : Nat → Nat → Int32} {F F' Q Q' v : Nat → Int32} (h : lvE S A G C C' P P' F F' Q Q') (m : vR S A G C P F Q v) : vR S A G C' P' F' Q' v := by
  obtain ⟨e1, e2, e3, e4⟩ := h
  obtain ⟨m1, m2, m3, m4, m5⟩ := m
  refine ⟨m1, m2, fun s hs => ?_, fun i hi j hj => ?_, fun g hg => ?_⟩
  · rw [← e1 s hs]; exact m3 s hs
  · rw [← e2 i hi j hj]; exact m4 i hi j hj
  · rw [← e3 g hg, ← e4 g hg]; exact m5 g hg
/-- one ACT back, by its row -/
def US (S : Nat) (ro : Nat → Int32) (C : Nat → Int32) (P : Nat → Nat → Int32) (A G : Nat) (C' : Nat → Int32) (P' : Nat → Nat → Int32) (A' G' : Nat) : Prop :=
  (ro 0 = 0 ∧ A' = A ∧ G' = G ∧ PE P P' A ∧ ∃ s, s < S ∧ ro 1 = nI s ∧ C' s = ro 2 ∧ ∀ j, j < S → j ≠ s → C' j = C j) ∨
  (ro 0 = 1 ∧ A' = A + 1 ∧ G' = G ∧ rE S C C' ∧ A ≤ 7 ∧ ∃ r0, r0 ≤ A ∧ ro 1 = nI r0 ∧ ∀ j, j < 6 → (∀ i, i < r0 → P' i j = P i j) ∧ P' r0 j = ro (2 + j) ∧ ∀ i, r0 < i → i ≤ A → P' i j = P (i - 1) j) ∨
  (ro 0 = 2 ∧ A' = A ∧ G = G' + 1 ∧ rE S C C' ∧ PE P P' A)
/-- all ACTS kept, back to back, against the reference's rows -/
def Ch (S : Nat) (F Q : Nat → Int32) : Nat → (Nat → Nat → Int32) → (Nat → Nat → Int32) → (Nat → Int32) → (Nat → Nat → Int32) → Nat → Nat → Prop
  | 0, _, _, _, _, _, _ => True
  | K + 1, ro, pa, C, P, A, G => ∃ C' P' A' G', US S (ro K) C P A G C' P' A' G' ∧ vR S A' G' C' P' F Q (pa K) ∧ mV S A' G' C' P' F Q ∧ Ch S F Q K ro pa C' P' A' G'
theorem US_cg {S A G A' G' : Nat} {ro : Nat → Int32} {C C2 C' : Nat → Int32} {P P2 P' : Nat → Nat → Int32} (eC : rE S C C2) (eP : PE P P2 A) (h : US S ro C P A G C' P' A' G') : US S ro C2 P2 A G C' P' A' G' := by
  rcases h with ⟨h1, h2, h3, h4, s, h5, h6, h7, h8⟩ | ⟨h1, h2, h3, h4, h5, r0, h6, h7, h8⟩ | ⟨h1, h2, h3, h4, h5⟩
  · refine Or.inl ⟨h1, h2, h3, fun i hi j hj => ?_, s, h5, h6, h7, fun j hj hne => ?_⟩
    · rw [← eP i hi j hj]; exact h4 i hi j hj
    · rw [← eC j hj]; exact h8 j hj hne
  · refine Or.inr (Or.inl ⟨h1, h2, h3, fun s hs => ?_, h5, r0, h6, h7, fun j hj => ⟨fun i hi => ?_, (h8 j hj).2.1, fun i i1 i2 => ?_⟩⟩)
    · rw [← eC s hs]; exact h4 s hs
    · rw [← eP i (by omega) j hj]; exact (h8 j hj).1 i hi
    · rw [← eP (i - 1) (by omega) j hj]; exact (h8 j hj).2.2 i i1 i2
  · refine Or.inr (Or.inr ⟨h1, h2, h3, fun s hs => ?_, fun i hi j hj => ?_⟩)
    · rw [← eC s hs]; exact h4 s hs
    · rw [← eP i hi j hj]; exact h5 i hi j hj
theorem US_G {S A G A' G' : Nat} {ro : Nat → Int32} {C C' : Nat → Int32} {P P' : Nat → Nat → Int32} (h : US S ro C P A G C' P' A' G') : G' ≤ G := by
  rcases h with ⟨-, -, h, -⟩ | ⟨-, -, h, -⟩ | ⟨-, -, h, -⟩ <;> omega
theorem Ch_cg {S : Nat} {F F2 Q Q2 : Nat → Int32} : ∀ K (ro ro2 pa pa2 : Nat → Nat → Int32) (C C2 : Nat → Int32) (P P2 : Nat → Nat → Int32) (A G : Nat), (∀ k, k < K → (∀ j, j < 8 → ro k j = ro2 k j) ∧ ∀ j, j < 88 → pa k j = pa2 k j) → lvE S A G C C2 P P2 F F2 Q Q2 → S ≤ 6 → Ch S F Q K ro pa C P A G → Ch S F2 Q2 K ro2 pa2 C2 P2 A G := by
  intro K
  induction K with
  | zero => intro _ _ _ _ _ _ _ _ _ _ _ _ _ _; trivial
  | succ K ih =>
    intro ro ro2 pa pa2 C C2 P P2 A G hr hE hS ⟨C', P', A', G', h1, h2, h3, h4⟩
    have hg := US_G h1
    have hro := (hr K (Nat.lt_succ_self K)).1
    have hpa := (hr K (Nat.lt_succ_self K)).2
    have hE2 : lvE S A' G' C' C' P' P' F F2 Q Q2 := ⟨fun _ _ => rfl, fun _ _ _ _ => rfl, fun g hgg => hE.2.2.1 g (by omega), fun g hgg => hE.2.2.2 g (by omega)⟩
    have hU : US S (ro2 K) C2 P2 A G C' P' A' G' := by
      have := US_cg hE.1 hE.2.1 h1
      unfold US at this ⊢
      rw [← hro 0 (by decide), ← hro 1 (by decide), ← hro 2 (by decide)]
      rcases this with z | ⟨z1, z2, z3, z4, z5, r0, z6, z7, z8⟩ | z
      · exact Or.inl z
      · exact Or.inr (Or.inl ⟨z1, z2, z3, z4, z5, r0, z6, z7, fun j hj => ⟨(z8 j hj).1, by rw [← hro (2 + j) (by omega)]; exact (z8 j hj).2.1, (z8 j hj).2.2⟩⟩)
      · exact Or.inr (Or.inr z)
    have hm : A' ≤ 8 ∧ G' ≤ 16 := ⟨h3.1, h3.2.1⟩
    have hv := vR_E hE2 h2
    have hv2 : vR S A' G' C' P' F2 Q2 (pa2 K) := by
      obtain ⟨v1, v2, v3, v4, v5⟩ := hv
      refine ⟨?_, ?_, fun s hs => ?_, fun i hi j hj => ?_, fun g hgg => ⟨?_, ?_⟩⟩
      · rw [← hpa _ (by decide)]; exact v1
      · rw [← hpa _ (by decide)]; exact v2
      · rw [← hpa _ (by omega)]; exact v3 s hs
      · rw [← hpa _ (by omega)]; exact v4 i hi j hj
      · rw [← hpa _ (by omega)]; exact (v5 g hgg).1
      · rw [← hpa _ (by omega)]; exact (v5 g hgg).2
    exact ⟨C', P', A', G', hU, hv2, mV_E hE2 h3, ih ro ro2 pa pa2 C' C' P' P' A' G' (fun k hk => hr k (by omega)) hE2 hS h4⟩
/-- without the oldest -/
theorem Ch_drop {S : Nat} {F Q : Nat → Int32} : ∀ K (ro pa : Nat → Nat → Int32) (C : Nat → Int32) (P : Nat → Nat → Int32) (A G : Nat), Ch S F Q (K + 1) ro pa C P A G → Ch S F Q K (fun k => ro (k + 1)) (fun k => pa (k + 1)) C P A G := by
  intro K
  induction K with
  | zero => intro _ _ _ _ _ _ _; trivial
  | succ K ih =>
    intro ro pa C P A G ⟨C', P', A', G', h1, h2, h3, h4⟩
    exact ⟨C', P', A', G', h1, h2, h3, ih ro pa C' P' A' G' h4⟩
/-- a new ACT -/
theorem Ch_new {S : Nat} {F Q F2 Q2 : Nat → Int32} {K : Nat} {ro ro2 pa pa2 : Nat → Nat → Int32} {C C2 : Nat → Int32} {P P2 : Nat → Nat → Int32} {A A2 G G2 : Nat} (hS : S ≤ 6) (hK : K ≤ 12) (h : Ch S F Q K ro pa C P A G) (hm : mV S A G C P F Q) (hF : rE G F F2) (hQ : rE G Q Q2) (hro : ∀ k, k < frK K → ∀ j, j < 8 → ro2 k j = if K < 12 then ro k j else ro (k + 1) j) (hpa : ∀ k, k < frK K → ∀ j, j < 88 → pa2 k j = if K < 12 then pa k j else pa (k + 1) j) (hv : vR S A G C P F2 Q2 (pa2 (frK K))) (hU : US S (ro2 (frK K)) C2 P2 A2 G2 C P A G) : Ch S F2 Q2 (frK K + 1) ro2 pa2 C2 P2 A2 G2 := by
  have hE : lvE S A G C C P P F F2 Q Q2 := ⟨fun _ _ => rfl, fun _ _ _ _ => rfl, hF, hQ⟩
  refine ⟨C, P, A, G, hU, hv, mV_E hE hm, ?_⟩
  unfold frK at hro hpa ⊢
  by_cases z : K < 12
  · rw [if_pos z] at hro hpa ⊢
    refine Ch_cg K ro ro2 pa pa2 C C P P A G (fun k hk => ⟨fun j hj => ?_, fun j hj => ?_⟩) hE hS h
    · have := hro k hk j hj; rw [if_pos z] at this; exact this.symm
    · have := hpa k hk j hj; rw [if_pos z] at this; exact this.symm
  · rw [if_neg z] at hro hpa ⊢
    obtain rfl : K = 12 := by omega
    refine Ch_cg 11 (fun k => ro (k + 1)) ro2 (fun k => pa (k + 1)) pa2 C C P P A G (fun k hk => ⟨fun j hj => ?_, fun j hj => ?_⟩) hE hS (Ch_drop 11 ro pa C P A G h)
    · have := hro k hk j hj; rw [if_neg z] at this; exact this.symm
    · have := hpa k hk j hj; rw [if_neg z] at this; exact this.symm

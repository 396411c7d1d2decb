/-! the invariant behind calls that only ask; two calls, one behind the other -/
theorem rCc_cg {V W U : Mi} {B D : Nat → Nat → Int64} {A b : Nat} (h8 : W 128 = V 128) (h5 : W 135 = V 135) (h6 : W 136 = V 136) (d5 : D 125 = B 125) (d8 : D 138 = B 138) (h : rCc V B A b U) : rCc W D A b U := by
  have e1 : ∀ f, plR W D A f = plR V B A f := fun f => by
    unfold plR
    rw [d5]
    congr 1
    funext c
    exact sfP_cg h8 h5 h6 d5 d8 f c A
  have e2 : ∀ x, rqL W x A b = rqL V x A b := fun x => rqL_cg2 h8 h5 h6 x A b
  have e3 : cqF W D A b = cqF V B A b := by
    funext f c row
    unfold cqF hhR hH
    rw [e1, e2, d5]
  unfold rCc at h ⊢
  rw [e3, show plR W D A = plR V B A from funext e1]
  exact h
theorem rCc_U {V U U2 : Mi} {B : Nat → Nat → Int64} {A b : Nat} (e : ∀ c, 140 ≤ c → c ≤ 146 → U2 c = U c) (h : rCc V B A b U) : rCc V B A b U2 := by
  refine ⟨fun g hg => ?_, fun g hg => ?_⟩
  · rw [e 140 (by omega) (by omega), e 143 (by omega) (by omega), e 144 (by omega) (by omega)]; exact h.1 g hg
  · rw [e 140 (by omega) (by omega), e 141 (by omega) (by omega), e 145 (by omega) (by omega), e 146 (by omega) (by omega)]; exact h.2 g hg
theorem Ig_cg {MI W : Mi} {A S : Nat} (hA : A ≤ 8) (h4 : ∀ i, i < 8 → W (4 + i) = MI (4 + i)) (h44 : W 44 = MI 44) (h45 : W 45 = MI 45) (h60 : W 60 = MI 60) (h63 : W 63 = MI 63) (h : Ig MI A S) : Ig W A S := by
  intro N n1 n2 n3 I' O' V' Q q e1 e2 e3
  rw [h44] at e1
  rw [h45] at e2
  rw [h60] at n3 ⊢
  rw [h63]
  exact h N n1 n2 n3 I' O' V' Q q e1 e2 (fun i hi j hj => by
    have := e3 i hi j hj
    rw [← this]
    show MI (4 + i) j = W (4 + i) j
    rw [h4 i (by omega)])
theorem Fr_shE {MI W : Mi} {ML B : Nat → Nat → Int64} {A : Nat} (h : shE MI ML A W B) : Fr MI W ML B := by
  obtain ⟨a1, a2, a3, a4, -, -, a7⟩ := h
  refine ⟨fun b z1 z2 z3 z4 z5 => ?_, a7 9 (by decide), fun j _ _ _ _ => by rw [a3 124 (by decide)], fun b z => a4 b (by omega)⟩
  rcases (show b < 56 ∨ (56 < b ∧ b < 86) ∨ 123 < b by omega) with z | z | z
  · exact a1 b z z1
  · exact a2 b z.1 z.2
  · exact a3 b z
theorem Fr_rF2 {W V : Mi} {B D : Nat → Nat → Int64} (h : rF2 W V) (hD : ∀ c, c ≠ 148 → D c = B c) : Fr W V B D :=
  ⟨fun b z1 z2 z3 z4 z5 => h.1 b (by omega) (by omega), by rw [h.1 0 (by decide) (by decide)], fun j z1 z2 z3 z4 => h.2 j (by omega) (by omega) (by omega) z2 (by omega) (by omega) (by omega), fun b z => hD b (by omega)⟩
section inv
variable {X : xG} {MI : Mi} {ML : Nat → Nat → Int64} {MR : Nat → Nat → Option Nat} {r : Nat → Nat} {S A Gn b K u bi bo w : Nat}
theorem Inv_A (h : Inv MI ML MR r S A Gn b K u bi bo w) : A ≤ 8 := h.2.1.2.2.1.2.2.1.2.1
theorem Inv_W {W : Mi} {B : Nat → Nat → Int64} (h : Inv MI ML MR r S A Gn b K u bi bo w) (hE : shE MI ML A W B) : Bs W B r S A Gn b K u bi bo w := Bs_Fr h.1.2.2.1 (Fr_shE hE) h.2.1
/-- a call that asks: the class's cells W B (sheets filled), then the reference's -/
theorem inv_ask {W W2 : Mi} {B B2 : Nat → Nat → Int64} (h : Inv MI ML MR r S A Gn b K u bi bo w) (hE : shE MI ML A W B) (hB : ∀ c, c ≠ 148 → B2 c = B c) (hF : rF2 W W2) (hC : rCc W B A b W2) (h2 : W2 124 2 = -1) (he : W 0 8 = W2 124 1) (h4 : ¬ W 0 8 = 4) : InvE W2 B2 MR := by
  have hA := Inv_A h
  have f1 := Fr_shE hE
  have f2 := Fr_rF2 hF hB
  have e0 : W2 0 = W 0 := hF.1 0 (by decide) (by decide)
  refine ⟨r, S, A, Gn, b, K, u, bi, bo, w, h.1, Bs_Fr h.1.2.2.1 (Fr_tr f1 f2) h.2.1, ⟨?_, ?_, ?_⟩, ?_, ?_, ?_⟩
  · rw [e0]; exact he
  · rw [e0, if_neg h4]; exact h2.symm
  · rw [f2.2.1, f1.2.1, f2.2.2.1 12 (by omega) (by omega) (by omega) (by omega), f1.2.2.1 12 (by omega) (by omega) (by omega) (by omega)]
    exact h.2.2.1.2.2
  · refine shI_cg ⟨?_, fun c hc => hF.1 c (by omega) (by omega), hB 49 (by decide), hB 58 (by decide)⟩ (fun c c1 c2 => ⟨hF.1 c (by omega) (by omega), hB c (by omega)⟩) hE.2.2.2.2.2.1
    rw [hF.1 1 (by decide) (by decide)]
  · exact rCc_cg (hF.1 128 (by decide) (by decide)) (hF.1 135 (by decide) (by decide)) (hF.1 136 (by decide) (by decide)) (hB 125 (by decide)) (hB 138 (by decide)) hC
  · refine Ig_cg hA (fun i hi => ?_) ?_ ?_ ?_ ?_ h.2.2.2.2.2
    · rw [hF.1 (4 + i) (by omega) (by omega), hE.1 (4 + i) (by omega) (by omega)]
    · rw [hF.1 44 (by omega) (by omega), hE.1 44 (by omega) (by omega)]
    · rw [hF.1 45 (by omega) (by omega), hE.1 45 (by omega) (by omega)]
    · rw [hF.1 60 (by omega) (by omega), hE.2.1 60 (by omega) (by omega)]
    · rw [hF.1 63 (by omega) (by omega), hE.2.1 63 (by omega) (by omega)]
theorem rCc_shE {W : Mi} {B : Nat → Nat → Int64} (h : Inv MI ML MR r S A Gn b K u bi bo w) (hE : shE MI ML A W B) : rCc W B A b W :=
  rCc_cg (hE.2.2.1 128 (by decide)) (hE.2.2.1 135 (by decide)) (hE.2.2.1 136 (by decide)) (hE.2.2.2.1 125 (by omega)) (hE.2.2.2.1 138 (by omega)) (rCc_U (fun c c1 c2 => hE.2.2.1 c (by omega)) h.2.2.2.2.1)
theorem rF2_rf {W V : Mi} {x : Int32} (h : ∀ c, c ≠ 139 → c ≠ 124 → V c = W c) (h2 : ∀ j, j ≠ 0 → j ≠ 32 → V 124 j = W 124 j) : rF2 W (rfM V x) := by
  refine ⟨fun c h1 hc => ?_, fun j j0 j1 j2 j3 _ _ _ => ?_⟩
  · unfold rfM
    rw [u2_row _ _ h1, u2_row _ _ h1, h c (by omega) h1]
  · unfold rfM
    rw [u2_ne _ _ (by omega), u2_ne _ _ (by omega), h2 j j0 j3]
theorem rf_rows {V : Mi} {x : Int32} {c : Nat} (h : c ≠ 124) : rfM V x c = V c := by
  unfold rfM
  rw [u2_row _ _ h, u2_row _ _ h]
theorem rf_1 {V : Mi} {x : Int32} : rfM V x 124 1 = x := by
  unfold rfM
  rw [u2_ne _ _ (by omega)]
  exact u2_eq _ _ _ _
theorem rf_2 {V : Mi} {x : Int32} : rfM V x 124 2 = -1 := u2_eq _ _ _ _
/-- class's call, then the reference's: one answer, the invariant behind both -/
def Two (X : xG) (y1 : MethodName) (c1 : ByteArray) (n1 : Nat) (t1 : Option FieldType) (as1 : List Value) (y2 : MethodName) (c2 : ByteArray) (n2 : Nat) (t2 : Option FieldType) (as2 : List Value) (MI : Mi) (ML : Nat → Nat → Int64) (MR : Nat → Nat → Option Nat) : Prop :=
  ∃ (d1 : Nat) (Q1 : xQ), d1 ≤ 20 ∧ Ct X y1 c1 n1 t1 d1 0 0 as1 0 SH MI ML MR 0 SH Q1 ∧ ∀ r W B C, Q1 r W B C → ∃ (v : Int32) (d2 : Nat) (Q2 : xQ), r = some (.int v) ∧ d2 ≤ 20 ∧ Ct X y2 c2 n2 t2 d2 0 0 as2 0 SH W B C 0 SH Q2 ∧ ∀ r2 W2 B2 C2, Q2 r2 W2 B2 C2 → r2 = some (.int v) ∧ InvE W2 B2 C2
variable {y1 y2 : MethodName} {c1 c2 : ByteArray} {n1 n2 d1 d2 : Nat} {t1 t2 : Option FieldType} {as1 as2 : List Value}
theorem two_sh {Q1 : xQ} (h : Inv MI ML MR r S A Gn b K u bi bo w) (hd1 : d1 ≤ 20) (hd2 : d2 ≤ 20) (h1 : Ct X y1 c1 n1 t1 d1 0 0 as1 0 SH MI ML MR 0 SH Q1) (hq : ∀ r0 W B C, Q1 r0 W B C → C = MR ∧ shE MI ML A W B ∧ ∃ (v : Int32) (Q2 : xQ), r0 = some (.int v) ∧ Ct X y2 c2 n2 t2 d2 0 0 as2 0 SH W B MR 0 SH Q2 ∧ ∀ r2 W2 B2 C2, Q2 r2 W2 B2 C2 → rQ W B MR A b (fun _ v2 w2 => v2 = v ∧ w2 = W 0 8 ∧ ¬ w2 = 4) r2 W2 B2 C2) : Two X y1 c1 n1 t1 as1 y2 c2 n2 t2 as2 MI ML MR := by
  refine ⟨d1, Q1, hd1, h1, fun r0 W B C hz => ?_⟩
  obtain ⟨rfl, hE, v, Q2, rfl, h2, hz2⟩ := hq r0 W B C hz
  refine ⟨v, d2, Q2, rfl, hd2, h2, fun r2 W2 B2 C2 hy => ?_⟩
  obtain ⟨rfl, q1, q2, q3, q4, q5, a, rfl, rfl, q6, q7⟩ := hz2 r2 W2 B2 C2 hy
  exact ⟨rfl, inv_ask h hE q1 q2 q3 q5 q6.symm (by rw [← q6]; exact q7)⟩
/-- the reference's cells behind a call that only writes why -/
theorem rQ_rf {W V : Mi} {B : Nat → Nat → Int64} {v w1 : Int32} {P : Mi → Int32 → Int32 → Prop} (hC : rCc W B A b W) (h : ∀ c, c ≠ 139 → c ≠ 124 → V c = W c) (h2 : ∀ j, j ≠ 0 → j ≠ 32 → V 124 j = W 124 j) (h0 : V 124 0 = 0) (hP : P (rfM V w1) v w1) : rQ W B MR A b P (some (.int v)) (rfM V w1) B MR := by
  refine ⟨rfl, fun _ _ => rfl, rF2_rf h h2, rCc_U (fun c z1 z2 => ?_) hC, ?_, rf_2, v, rfl, ?_⟩
  · rw [rf_rows (by omega), h c (by omega) (by omega)]
  · unfold rfM
    rw [u2_ne _ _ (by omega), u2_ne _ _ (by omega)]
    exact h0
  · rw [rf_1]; exact hP
theorem two_an {v v2 w1 w2 : Int32} (h : Inv MI ML MR r S A Gn b K u bi bo w) (hd1 : d1 ≤ 20) (hd2 : d2 ≤ 20) (h1 : Cf X y1 c1 n1 t1 d1 as1 0 SH MI ML MR (some (.int v)) (ansM MI w1) ML MR) (h2 : Cf X y2 c2 n2 t2 d2 as2 0 SH (ansM MI w1) ML MR (some (.int v2)) (rfM (th (ansM MI w1)) w2) ML MR) (hv : (v, w1) = (v2, w2)) (hw : ¬ w1 = 4) : Two X y1 c1 n1 t1 as1 y2 c2 n2 t2 as2 MI ML MR := by
  obtain ⟨rfl, rfl⟩ := Prod.mk.inj hv
  refine two_sh h hd1 hd2 h1 (fun r0 W B C hz => ?_)
  obtain ⟨rfl, rfl, rfl, rfl⟩ := hz
  have hE : shE MI B A (ansM MI w1) B := shE_w (shE_rf h.2.2.2.1)
  refine ⟨rfl, hE, v, _, rfl, h2, fun r2 W2 B2 C2 hy => ?_⟩
  obtain ⟨rfl, rfl, rfl, rfl⟩ := hy
  refine rQ_rf (rCc_shE h hE) (fun c _ z => th_b z) (fun j z _ => u2_ne _ _ (by omega)) (u2_eq _ _ _ _) ⟨rfl, ?_, hw⟩
  exact (u2_eq _ _ _ _).symm
/-- where neither writes why -/
theorem inv_th (h : Inv MI ML MR r S A Gn b K u bi bo w) {x : Int32} : Inv (u2 MI 124 0 x) ML MR r S A Gn b K u bi bo w := by
  have e : ∀ c, c ≠ 124 → u2 MI 124 0 x c = MI c := fun c z => u2_row _ _ z
  have ej : ∀ j, j ≠ 0 → u2 MI 124 0 x 124 j = MI 124 j := fun j z => u2_ne _ _ (by omega)
  refine ⟨h.1, Bs_Fr h.1.2.2.1 ⟨fun c z1 z2 z3 z4 z5 => e c (by omega), by rw [e 0 (by decide)], fun j z _ _ _ => ej j (by omega), fun _ _ => rfl⟩ h.2.1, ⟨?_, ?_, ?_⟩, ?_, ?_, ?_⟩
  · rw [e 0 (by decide), ej 1 (by decide)]; exact h.2.2.1.1
  · rw [e 0 (by decide), e 14 (by decide), ej 2 (by decide)]; exact h.2.2.1.2.1
  · rw [e 0 (by decide), ej 12 (by decide)]; exact h.2.2.1.2.2
  · exact shI_cg ⟨by rw [e 1 (by decide)], fun c hc => e c (by omega), rfl, rfl⟩ (fun c z1 z2 => ⟨e c (by omega), rfl⟩) h.2.2.2.1
  · exact rCc_cg (e 128 (by decide)) (e 135 (by decide)) (e 136 (by decide)) rfl rfl (rCc_U (fun c z1 z2 => e c (by omega)) h.2.2.2.2.1)
  · exact Ig_cg (Inv_A h) (fun i hi => e _ (by omega)) (e _ (by decide)) (e _ (by decide)) (e _ (by decide)) (e _ (by decide)) h.2.2.2.2.2
theorem two_no {v v2 : Int32} (h : Inv MI ML MR r S A Gn b K u bi bo w) (hd1 : d1 ≤ 20) (hd2 : d2 ≤ 20) (h1 : Cf X y1 c1 n1 t1 d1 as1 0 SH MI ML MR (some (.int v)) MI ML MR) (h2 : Cf X y2 c2 n2 t2 d2 as2 0 SH MI ML MR (some (.int v2)) (th MI) ML MR) (hv : v = v2) : Two X y1 c1 n1 t1 as1 y2 c2 n2 t2 as2 MI ML MR := by
  subst hv
  refine ⟨d1, _, hd1, h1, fun r0 W B C hz => ?_⟩
  obtain ⟨rfl, rfl, rfl, rfl⟩ := hz
  refine ⟨v, d2, _, rfl, hd2, h2, fun r2 W2 B2 C2 hy => ?_⟩
  obtain ⟨rfl, rfl, rfl, rfl⟩ := hy
  exact ⟨rfl, r, S, A, Gn, b, K, u, bi, bo, w, inv_th h⟩
end inv

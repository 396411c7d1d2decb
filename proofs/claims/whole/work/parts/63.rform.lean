/-! the reference: calls on PRIMES and FEWEST; formulas -/
/-- the machine as the reference has it -/
def rMc (V : Mi) (A S b : Nat) : Prop := A ≤ 8 ∧ S ≤ 6 ∧ V 128 6 = nI A ∧ okA (arR V) A S ∧ b < 6 ∧ V 130 1 = nI b
def rCc (V : Mi) (B : Nat → Nat → Int64) (A b : Nat) (W : Mi) : Prop := rI (plR V B A) W ∧ rJ (cqF V B A b) W
theorem th_b {MI : Mi} {c : Nat} (h : c ≠ 124) : th MI c = MI c := u2_row _ _ h
theorem rMc_th {MI : Mi} {A S b : Nat} (h : rMc MI A S b) : rMc (th MI) A S b := h
theorem rMc_F {V W : Mi} {A S b : Nat} (h : rMc V A S b) (hF : rF V W) : rMc W A S b := by
  obtain ⟨h1, h2, h3, h4, h5, h6⟩ := h
  have e8 : W 128 = V 128 := hF.1 128 (by decide) (by decide)
  refine ⟨h1, h2, by rw [e8]; exact h3, ?_, h5, by rw [hF.1 130 (by decide) (by decide)]; exact h6⟩
  have : arR W = arR V := by funext i j; show W 128 _ = _; rw [e8]
  rw [this]
  exact h4
theorem plR_F {V W : Mi} {B D : Nat → Nat → Int64} {A : Nat} (hF : rF V W) (hD : ∀ c, c ≠ 148 → D c = B c) (f : Nat) : plR W D A f = plR V B A f := by
  unfold plR
  rw [hD 125 (by decide)]
  congr 1
  funext c
  exact sfP_cg (hF.1 128 (by decide) (by decide)) (hF.1 135 (by decide) (by decide)) (hF.1 136 (by decide) (by decide)) (hD 125 (by decide)) (hD 138 (by decide)) f c A
theorem rqL_F {V W : Mi} (hF : rF V W) (x : Int32) (A b : Nat) : rqL W x A b = rqL V x A b := rqL_cg2 (hF.1 128 (by decide) (by decide)) (hF.1 135 (by decide) (by decide)) (hF.1 136 (by decide) (by decide)) x A b
theorem hhR_F {V W : Mi} {B D : Nat → Nat → Int64} {A b : Nat} (hF : rF V W) (hD : ∀ c, c ≠ 148 → D c = B c) (f : Nat) : hhR W D A b f = hhR V B A b f := by
  unfold hhR hH
  rw [rqL_F hF, plR_F hF hD, hD 125 (by decide)]
theorem rCc_F {V W U : Mi} {B D : Nat → Nat → Int64} {A b : Nat} (hF : rF V W) (hD : ∀ c, c ≠ 148 → D c = B c) : rCc W D A b U ↔ rCc V B A b U := by
  have e1 : plR W D A = plR V B A := funext fun f => plR_F hF hD f
  have e2 : cqF W D A b = cqF V B A b := by
    funext f c row
    unfold cqF
    rw [hhR_F hF hD, plR_F hF hD, rqL_F hF]
  unfold rCc
  rw [e1, e2]
theorem rTr_F {V W : Mi} (hF : rF V W) (x : Int32) : rTr W x = rTr V x := by
  unfold rTr rIF
  rw [hF.2 20 (by decide) (by decide), hF.2 27 (by decide) (by decide)]
def rcT (W : Mi) (x : Int32) : Int32 := if rTr W x = 0 then (if inB (W 145 x.toNatClampNeg) 0 5 = true then 0 else 5) else rTr W x
/-- frame of a whole call -/
def rF2 (MI W : Mi) : Prop := (∀ b, b ≠ 124 → b < 139 ∨ 149 < b → W b = MI b) ∧ ∀ j, j ≠ 0 → j ≠ 1 → j ≠ 2 → j ≠ 32 → j ≠ 43 → j ≠ 44 → j ≠ 45 → W 124 j = MI 124 j
def rQ (MI : Mi) (ML : Nat → Nat → Int64) (MR : Nat → Nat → Option Nat) (A b : Nat) (P : Mi → Int32 → Int32 → Prop) : xQ := fun r W B C => C = MR ∧ (∀ c, c ≠ 148 → B c = ML c) ∧ rF2 MI W ∧ rCc MI ML A b W ∧ W 124 0 = 0 ∧ W 124 2 = -1 ∧ ∃ a, r = some (.int a) ∧ P W a (W 124 1)
theorem rq_end {MI W : Mi} {ML B : Nat → Nat → Int64} {MR : Nat → Nat → Option Nat} {A b : Nat} {P : Mi → Int32 → Int32 → Prop} {a w : Int32} (hF : rF (th MI) W) (hB : ∀ c, c ≠ 148 → B c = ML c) (hC : rCc (th MI) ML A b W) (hP : P (rfM W w) a w) : rQ MI ML MR A b P (some (.int a)) (rfM W w) B MR := by
  have hth : rF MI (th MI) ∨ True := Or.inr trivial
  have e : ∀ c, c ≠ 124 → rfM W w c = W c := fun c h => by unfold rfM; rw [u2_row _ _ h, u2_row _ _ h]
  have ej : ∀ j, j ≠ 1 → j ≠ 2 → rfM W w 124 j = W 124 j := fun j h1 h2 => by unfold rfM; rw [u2_ne _ _ (by omega), u2_ne _ _ (by omega)]
  have e1 : rfM W w 124 1 = w := by unfold rfM; rw [u2_ne _ _ (by omega)]; exact u2_eq _ _ _ _
  have ec : rCc (th MI) ML A b = rCc MI ML A b := by
    have p1 : plR (th MI) ML A = plR MI ML A := by
      funext f
      unfold plR
      congr 1
    have p2 : ∀ f, rqL (th MI) (nI f) A b = rqL MI (nI f) A b := fun f => rqL_cg2 (th_b (by decide)) (th_b (by decide)) (th_b (by decide)) _ _ _
    have p3 : cqF (th MI) ML A b = cqF MI ML A b := by
      funext f c row
      unfold cqF hhR
      rw [p2, p1]
    unfold rCc
    rw [p1, p3]
  refine ⟨rfl, hB, ⟨fun c h1 h2 => by rw [e c h1, hF.1 c h1 h2, th_b h1], fun j h0 h1 h2 h3 h4 _ _ => by rw [ej j h1 h2, hF.2 j h3 h4]; exact u2_ne _ _ (by omega)⟩, ?_, by rw [ej 0 (by decide) (by decide), hF.2 0 (by decide) (by decide)]; exact u2_eq _ _ _ _, u2_eq _ _ _ _, a, rfl, by rw [e1]; exact hP⟩
  rw [← ec]
  refine ⟨fun g hg => ?_, fun g hg => ?_⟩
  · rw [e 140 (by decide), e 143 (by decide), e 144 (by decide)]; exact hC.1 g hg
  · rw [e 140 (by decide), e 141 (by decide), e 145 (by decide), e 146 (by decide)]; exact hC.2 g hg
section rform
variable {X : xG} {n : Nat} {MI : Nat → Nat → Int32} {ML : Nat → Nat → Int64} {MR : Nat → Nat → Option Nat}
set_option maxRecDepth 100000 in
theorem c_X11_hasCover (hM : x_Lay MR) {A S b f : Nat} (hm : rMc MI A S b) (hc : rCc MI ML A b MI) (hf : f < 5) : Ct X yX11_hasCover cX11_hasCover 2 (some .boolean) 10 0 0 [.ref 124, .int (nI f)] n SH MI ML MR n SH (fun r W B C => C = MR ∧ (∀ c, c ≠ 148 → B c = ML c) ∧ rF MI W ∧ rCc MI ML A b W ∧ W 141 f = 1 ∧ kpR f MI W ∧ r = some (.int (b2 (inB (W 145 f) 0 5)))) := by
  obtain ⟨hA, hS, hAr, hP, hb, hbr⟩ := hm
  refine Ct_of (by decide) (Nat.le_of_ble_eq_true rfl) (fun G hG => ?_)
  refine r_aload_n 0 rfl dX11_hasCover_0 ?_
  refine r_iload_n 1 rfl dX11_hasCover_1 ?_
  refine r_Vg [.int _] dX11_hasCover_2 lk_X11_412 mb_X11_coversBest in_X11_coversBest se_X11_coversBest rfl (c_X11_coversBest hM hA hS hAr hP hb hbr hf hc.1 hc.2) rfl rfl rfl (Nat.le_of_ble_eq_true rfl) (rfl) (fun r zW zB zC hz => ?_)
  obtain ⟨rfl, rfl, zB1, zF, zI, zJ, z1, zK⟩ := hz
  show RW X G _ _ _ _ _ _ _ _ _ _ _ _ _ []
  refine r_aload_n 0 rfl dX11_hasCover_5 ?_
  refine r_getr dX11_hasCover_6 fl_X11_83 rfl (hM _ _ _ rfl) ?_
  refine r_iload_n 1 rfl dX11_hasCover_9 ?_
  refine r_iald dX11_hasCover_10 rfl (vp_in_nI hf (by decide)) ?_
  rw [nI_clamp (by omega)]
  refine r_iconst (v := 0) rfl dX11_hasCover_11 ?_
  refine r_iconst (v := 5) rfl dX11_hasCover_12 ?_
  refine r_Sf [.int _, .int _, .int _] dX11_hasCover_13 lk_X11_138 mb_X11_in sc_X11_in rfl (c_X11_in) rfl (Nat.le_of_ble_eq_true rfl) (rfl) ?_
  exact r_zret hG dX11_hasCover_16 (by cases inB (zW 145 f) 0 5 <;> rfl) (⟨rfl, zB1, zF, ⟨zI, zJ⟩, z1, zK, rfl⟩)
set_option maxRecDepth 100000 in
theorem c_X11_refusesCover (hM : x_Lay MR) {A S b : Nat} (hm : rMc MI A S b) (hc : rCc MI ML A b MI) {x : Int32} : Ct X yX11_refusesCover cX11_refusesCover 3 (some .int) 11 0 0 [.ref 124, .int x] n SH MI ML MR n SH (fun r W B C => C = MR ∧ (∀ c, c ≠ 148 → B c = ML c) ∧ rF MI W ∧ rCc MI ML A b W ∧ (rTr W x = 0 → W 141 x.toNatClampNeg = 1) ∧ r = some (.int (rcT W x))) := by
  by_cases h1 : rTr MI x = 0
  · obtain ⟨f, hf, rfl⟩ := rTr_f h1
    have cf : (nI f).toNatClampNeg = f := nI_clamp (by omega)
    refine Ct_of (by decide) (Nat.le_of_ble_eq_true rfl) (fun G hG => ?_)
    refine r_aload_n 0 rfl dX11_refusesCover_0 ?_
    refine r_iload_n 1 rfl dX11_refusesCover_1 ?_
    refine r_Vf [.int _] dX11_refusesCover_2 lk_X11_344 mb_X11_refuses in_X11_refuses se_X11_refuses rfl (c_X11_refuses) rfl rfl rfl (Nat.le_of_ble_eq_true rfl) (rfl) ?_
    refine r_istore_n (ls2 := [(2, .int (rTr MI (nI f))), (0, .ref 124), (1, .int (nI f))]) dX11_refusesCover_5 (by decide) rfl ?_
    refine r_iload_n 0 rfl dX11_refusesCover_6 ?_
    refine r_ifle (tgt := 14) dX11_refusesCover_7 (by decide) (fun zh7 => ?_) (fun zh7 => ?_)
    rotate_left
    · exact absurd zh7 (fun q => q (by rw [h1]; exact Int32.le_refl 0))
    refine r_aload_n 1 rfl dX11_refusesCover_14 ?_
    refine r_iload_n 2 rfl dX11_refusesCover_15 ?_
    refine r_Vg [.int _] dX11_refusesCover_16 lk_X11_415 mb_X11_hasCover in_X11_hasCover se_X11_hasCover rfl (c_X11_hasCover hM hm hc hf) rfl rfl rfl (Nat.le_of_ble_eq_true rfl) (rfl) (fun r zW zB zC hz => ?_)
    obtain ⟨rfl, zB1, zF, zC1, z1, zK, rfl⟩ := hz
    show RW X G _ _ _ _ _ _ _ _ _ _ _ _ _ [.int (b2 (inB (zW 145 f) 0 5))]
    refine r_ifeq (tgt := 26) dX11_refusesCover_19 (by decide) (fun zh19 => ?_) (fun zh19 => ?_)
    · refine r_iconst (v := 5) rfl dX11_refusesCover_26 ?_
      exact r_iret hG dX11_refusesCover_27 (by
          refine ⟨rfl, zB1, zF, zC1, fun _ => by rw [cf]; exact z1, ?_⟩
          unfold rcT
          rw [rTr_F zF, if_pos h1, cf]
          first
            | (have y1 : inB (zW 145 f) 0 5 = true := b2n.mp zh19
               rw [if_pos y1])
            | (have y1 : ¬ inB (zW 145 f) 0 5 = true := by rw [b2z.mp zh19]; decide
               rw [if_neg y1]))
    · refine r_iconst (v := 0) rfl dX11_refusesCover_22 ?_
      refine r_goto (tgt := 27) dX11_refusesCover_23 (by decide) ?_
      exact r_iret hG dX11_refusesCover_27 (by
          refine ⟨rfl, zB1, zF, zC1, fun _ => by rw [cf]; exact z1, ?_⟩
          unfold rcT
          rw [rTr_F zF, if_pos h1, cf]
          first
            | (have y1 : inB (zW 145 f) 0 5 = true := b2n.mp zh19
               rw [if_pos y1])
            | (have y1 : ¬ inB (zW 145 f) 0 5 = true := by rw [b2z.mp zh19]; decide
               rw [if_neg y1]))
  · have hp : 0 < rTr MI x := rTr_0.resolve_left h1
    refine Ct_of (by decide) (Nat.le_of_ble_eq_true rfl) (fun G hG => ?_)
    refine r_aload_n 0 rfl dX11_refusesCover_0 ?_
    refine r_iload_n 1 rfl dX11_refusesCover_1 ?_
    refine r_Vf [.int _] dX11_refusesCover_2 lk_X11_344 mb_X11_refuses in_X11_refuses se_X11_refuses rfl (c_X11_refuses) rfl rfl rfl (Nat.le_of_ble_eq_true rfl) (rfl) ?_
    refine r_istore_n (ls2 := [(2, .int (rTr MI x)), (0, .ref 124), (1, .int x)]) dX11_refusesCover_5 (by decide) rfl ?_
    refine r_iload_n 0 rfl dX11_refusesCover_6 ?_
    refine r_ifle (tgt := 14) dX11_refusesCover_7 (by decide) (fun zh7 => ?_) (fun zh7 => ?_)
    · exact absurd zh7 (Int32.not_le.mpr hp)
    refine r_iload_n 0 rfl dX11_refusesCover_10 ?_
    refine r_goto (tgt := 27) dX11_refusesCover_11 (by decide) ?_
    exact r_iret hG dX11_refusesCover_27 (⟨rfl, fun _ _ => rfl, rF_rf _, hc, fun q => absurd q h1, by unfold rcT; rw [if_neg h1]⟩)
theorem rCc_th {A b : Nat} (hc : rCc MI ML A b MI) : rCc (th MI) ML A b (th MI) := by
  have p1 : plR (th MI) ML A = plR MI ML A := by
    funext f
    unfold plR
    congr 1
  have p2 : ∀ f, rqL (th MI) (nI f) A b = rqL MI (nI f) A b := fun f => rqL_cg2 (th_b (by decide)) (th_b (by decide)) (th_b (by decide)) _ _ _
  have p3 : cqF (th MI) ML A b = cqF MI ML A b := by
    funext f c row
    unfold cqF hhR
    rw [p2, p1]
  unfold rCc
  rw [p1, p3]
  exact hc
theorem rCc_pl {V W : Mi} {A b f : Nat} (hf : f < 5) (h : rCc V ML A b W) (h1 : W 140 f = 1) : W 143 f = nI (plR V ML A f).length ∧ ∀ i, i < (plR V ML A f).length → W 144 (729 * f + i) = nI ((plR V ML A f).getD i 0) := (h.1 f hf).elim (fun z => absurd h1 (by rw [z]; decide)) (fun z => z.2)
theorem rCc_cq {V W : Mi} {A b f : Nat} (hf : f < 5) (h : rCc V ML A b W) (h1 : W 141 f = 1) : W 140 f = 1 ∧ cqF V ML A b f (W 145 f) (fun k => W 146 (5 * f + k)) := (h.2 f hf).elim (fun z => absurd h1 (by rw [z]; decide)) (fun z => z.2)
/-- rJ is kept where PRIMES alone were found -/
theorem rCc_p {V W : Mi} {A b f : Nat} (hf : f < 5) (hc : rCc V ML A b V) (hF : rpF V W f) (hI : rI (plR V ML A) W) (h1 : W 140 f = 1) : rCc V ML A b W := ⟨hI, fun g hg => by
  rw [hF.1 141 (by decide) (by decide) (by decide) (by decide), hF.1 145 (by decide) (by decide) (by decide) (by decide), hF.1 146 (by decide) (by decide) (by decide) (by decide)]
  rcases hc.2 g hg with z | ⟨y1, y2, y3⟩
  · exact Or.inl z
  · refine Or.inr ⟨y1, ?_, y3⟩
    by_cases e : g = f
    · rw [e]; exact h1
    · rw [(hF.2 g hg e).1]; exact y2⟩
set_option maxRecDepth 100000 in
theorem c_X11_primes (hM : x_Lay MR) {A S b : Nat} (hm : rMc MI A S b) (hc : rCc MI ML A b MI) {x : Int32} : Ct X yX11_primes cX11_primes 3 (some .int) 7 0 0 [.ref 124, .int x] n SH MI ML MR n SH (rQ MI ML MR A b (fun _ a w => if rTr (th MI) x = 0 then a = nI (plR (th MI) ML A x.toNatClampNeg).length ∧ w = 0 else a = -1 ∧ w = rTr (th MI) x)) := by
  obtain ⟨V, hV⟩ : ∃ V, V = th MI := ⟨_, rfl⟩
  have hmV : rMc V A S b := by rw [hV]; exact rMc_th hm
  have hcV : rCc V ML A b V := by rw [hV]; exact rCc_th hc
  rw [← hV]
  obtain ⟨hA, hS, hAr, hP, hb, hbr⟩ := hmV
  by_cases h1 : rTr V x = 0
  · obtain ⟨f, hf, rfl⟩ := rTr_f h1
    have cf : (nI f).toNatClampNeg = f := nI_clamp (by omega)
    refine Ct_of (by decide) (Nat.le_of_ble_eq_true rfl) (fun G hG => ?_)
    refine r_aload_n 0 rfl dX11_primes_0 ?_
    refine r_iconst (v := 0) rfl dX11_primes_1 ?_
    refine r_puti dX11_primes_2 fl_X11_3 rfl rfl rfl ?_
    refine r_mem hV.symm rfl rfl ?_
    refine r_aload_n 0 rfl dX11_primes_5 ?_
    refine r_iload_n 1 rfl dX11_primes_6 ?_
    refine r_Vf [.int _] dX11_primes_7 lk_X11_344 mb_X11_refuses in_X11_refuses se_X11_refuses rfl (c_X11_refuses) rfl rfl rfl (Nat.le_of_ble_eq_true rfl) (rfl) ?_
    refine r_istore_n (ls2 := [(2, .int (rTr V (nI f))), (0, .ref 124), (1, .int (nI f))]) dX11_primes_10 (by decide) rfl ?_
    refine r_iload_n 0 rfl dX11_primes_11 ?_
    refine r_ifle (tgt := 21) dX11_primes_12 (by decide) (fun zh12 => ?_) (fun zh12 => ?_)
    rotate_left
    · exact absurd zh12 (fun q => q (by rw [h1]; exact Int32.le_refl 0))
    refine r_aload_n 1 rfl dX11_primes_21 ?_
    refine r_iload_n 2 rfl dX11_primes_22 ?_
    refine r_Vg [.int _] dX11_primes_23 lk_X11_391 mb_X11_primesOf in_X11_primesOf se_X11_primesOf rfl (c_X11_primesOf hM hA hS hAr hP hf hcV.1 rfl (fun g _ => plR_len _ _ _ _)) rfl rfl rfl (Nat.le_of_ble_eq_true rfl) (rfl) (fun r zW zB zC hz => ?_)
    obtain ⟨rfl, rfl, rfl, zF, zI, z1⟩ := hz
    have zC1 := rCc_p hf hcV zF zI z1
    show RW X G _ _ _ _ _ _ _ _ _ _ _ _ _ []
    refine r_aload_n 1 rfl dX11_primes_26 ?_
    refine r_aload_n 1 rfl dX11_primes_27 ?_
    refine r_getr dX11_primes_28 fl_X11_77 rfl (hM _ _ _ rfl) ?_
    refine r_iload_n 2 rfl dX11_primes_31 ?_
    refine r_iald dX11_primes_32 rfl (vp_in_nI hf (by decide)) ?_
    rw [cf, (rCc_pl hf zC1 z1).1]
    refine r_Vf [.int _] dX11_primes_33 lk_X11_267 mb_X11_good in_X11_good se_X11_good rfl (c_X11_good) rfl rfl rfl (Nat.le_of_ble_eq_true rfl) (rfl) ?_
    exact r_iret hG dX11_primes_36 (rq_end (by rw [← hV]; exact rpF_F zF) (fun _ _ => rfl) (by rw [← hV]; exact zC1) (by rw [if_pos h1, cf]; exact ⟨rfl, rfl⟩))
  · have hp : 0 < rTr V x := rTr_0.resolve_left h1
    refine Ct_of (by decide) (Nat.le_of_ble_eq_true rfl) (fun G hG => ?_)
    refine r_aload_n 0 rfl dX11_primes_0 ?_
    refine r_iconst (v := 0) rfl dX11_primes_1 ?_
    refine r_puti dX11_primes_2 fl_X11_3 rfl rfl rfl ?_
    refine r_mem hV.symm rfl rfl ?_
    refine r_aload_n 0 rfl dX11_primes_5 ?_
    refine r_iload_n 1 rfl dX11_primes_6 ?_
    refine r_Vf [.int _] dX11_primes_7 lk_X11_344 mb_X11_refuses in_X11_refuses se_X11_refuses rfl (c_X11_refuses) rfl rfl rfl (Nat.le_of_ble_eq_true rfl) (rfl) ?_
    refine r_istore_n (ls2 := [(2, .int (rTr V x)), (0, .ref 124), (1, .int x)]) dX11_primes_10 (by decide) rfl ?_
    refine r_iload_n 0 rfl dX11_primes_11 ?_
    refine r_ifle (tgt := 21) dX11_primes_12 (by decide) (fun zh12 => ?_) (fun zh12 => ?_)
    · exact absurd zh12 (Int32.not_le.mpr hp)
    refine r_aload_n 1 rfl dX11_primes_15 ?_
    refine r_iload_n 0 rfl dX11_primes_16 ?_
    refine r_Vf [.int _] dX11_primes_17 lk_X11_251 mb_X11_refused in_X11_refused se_X11_refused rfl (c_X11_refused) rfl rfl rfl (Nat.le_of_ble_eq_true rfl) (rfl) ?_
    exact r_iret hG dX11_primes_20 (rq_end (by rw [← hV]; exact rF_rf _) (fun _ _ => rfl) (by rw [← hV]; exact hcV) (by rw [if_neg h1]; exact ⟨rfl, rfl⟩))
set_option maxRecDepth 100000 in
theorem c_X11_prime (hM : x_Lay MR) {A S b : Nat} (hm : rMc MI A S b) (hc : rCc MI ML A b MI) {x y : Int32} : Ct X yX11_prime cX11_prime 4 (some .int) 7 0 0 [.ref 124, .int x, .int y] n SH MI ML MR n SH (rQ MI ML MR A b (fun _ a w => if rTr (th MI) x = 0 then (if inR y (nI (plR (th MI) ML A x.toNatClampNeg).length) = true then a = nI ((plR (th MI) ML A x.toNatClampNeg).getD y.toNatClampNeg 0) ∧ w = 0 else a = -1 ∧ w = 1) else a = -1 ∧ w = rTr (th MI) x)) := by
  obtain ⟨V, hV⟩ : ∃ V, V = th MI := ⟨_, rfl⟩
  have hmV : rMc V A S b := by rw [hV]; exact rMc_th hm
  have hcV : rCc V ML A b V := by rw [hV]; exact rCc_th hc
  rw [← hV]
  obtain ⟨hA, hS, hAr, hP, hb, hbr⟩ := hmV
  by_cases h1 : rTr V x = 0
  · obtain ⟨f, hf, rfl⟩ := rTr_f h1
    have cf : (nI f).toNatClampNeg = f := nI_clamp (by omega)
    have hpl := plR_len V ML A f
    by_cases h2 : inR y (nI (plR V ML A f).length) = true
    · obtain ⟨k, hk, rfl⟩ := inR_ex (by omega) (inR_t.mp h2).1 (inR_t.mp h2).2
      have eix : (729 : Int32) * nI f + nI k = nI (729 * f + k) := by
        have h1 := pk_mul 729 f
        have h2 := nI_add (729 * f) k
        rw [← h1] at h2
        exact h2
      refine Ct_of (by decide) (Nat.le_of_ble_eq_true rfl) (fun G hG => ?_)
      refine r_aload_n 0 rfl dX11_prime_0 ?_
      refine r_iconst (v := 0) rfl dX11_prime_1 ?_
      refine r_puti dX11_prime_2 fl_X11_3 rfl rfl rfl ?_
      refine r_mem hV.symm rfl rfl ?_
      refine r_aload_n 0 rfl dX11_prime_5 ?_
      refine r_iload_n 1 rfl dX11_prime_6 ?_
      refine r_Vf [.int _] dX11_prime_7 lk_X11_344 mb_X11_refuses in_X11_refuses se_X11_refuses rfl (c_X11_refuses) rfl rfl rfl (Nat.le_of_ble_eq_true rfl) (rfl) ?_
      refine r_istore_n (ls2 := [(3, .int (rTr V (nI f))), (0, .ref 124), (1, .int (nI f)), (2, .int (nI k))]) dX11_prime_10 (by decide) rfl ?_
      refine r_iload_n 0 rfl dX11_prime_11 ?_
      refine r_ifle (tgt := 21) dX11_prime_12 (by decide) (fun zh12 => ?_) (fun zh12 => ?_)
      rotate_left
      · exact absurd zh12 (fun q => q (by rw [h1]; exact Int32.le_refl 0))
      refine r_aload_n 1 rfl dX11_prime_21 ?_
      refine r_iload_n 2 rfl dX11_prime_22 ?_
      refine r_Vg [.int _] dX11_prime_23 lk_X11_391 mb_X11_primesOf in_X11_primesOf se_X11_primesOf rfl (c_X11_primesOf hM hA hS hAr hP hf hcV.1 rfl (fun g _ => plR_len _ _ _ _)) rfl rfl rfl (Nat.le_of_ble_eq_true rfl) (rfl) (fun r zW zB zC hz => ?_)
      obtain ⟨rfl, rfl, rfl, zF, zI, z1⟩ := hz
      have zC1 := rCc_p hf hcV zF zI z1
      show RW X G _ _ _ _ _ _ _ _ _ _ _ _ _ []
      refine r_iload_n 3 rfl dX11_prime_26 ?_
      refine r_iflt (tgt := 40) dX11_prime_27 (by decide) (fun zh27 => ?_) (fun zh27 => ?_)
      · exact absurd zh27 (nI_pos (by omega))
      refine r_iload_n 3 rfl dX11_prime_30 ?_
      refine r_aload_n 1 rfl dX11_prime_31 ?_
      refine r_getr dX11_prime_32 fl_X11_77 rfl (hM _ _ _ rfl) ?_
      refine r_iload_n 2 rfl dX11_prime_35 ?_
      refine r_iald dX11_prime_36 rfl (vp_in_nI hf (by decide)) ?_
      refine r_icmplt (tgt := 46) dX11_prime_37 (by decide) (fun zh37 => ?_) (fun zh37 => ?_)
      rotate_left
      · exact absurd zh37 (fun q => q (by rw [cf, (rCc_pl hf zC1 z1).1]; exact nI_lt hk (by omega)))
      refine r_aload_n 1 rfl dX11_prime_46 ?_
      refine r_aload_n 1 rfl dX11_prime_47 ?_
      refine r_getr dX11_prime_48 fl_X11_80 rfl (hM _ _ _ rfl) ?_
      refine r_sipush (v := 729) rfl dX11_prime_51 ?_
      refine r_iload_n 2 rfl dX11_prime_54 ?_
      refine r_imul dX11_prime_55 ?_
      refine r_iload_n 3 rfl dX11_prime_56 ?_
      refine r_iadd dX11_prime_57 ?_
      refine r_iald dX11_prime_58 rfl (by rw [eix]; exact vp_in_nI (show 729 * f + k < 3645 by omega) (by decide)) ?_
      rw [eix, nI_clamp (by omega), (rCc_pl hf zC1 z1).2 k hk]
      refine r_Vf [.int _] dX11_prime_59 lk_X11_267 mb_X11_good in_X11_good se_X11_good rfl (c_X11_good) rfl rfl rfl (Nat.le_of_ble_eq_true rfl) (rfl) ?_
      exact r_iret hG dX11_prime_62 (rq_end (by rw [← hV]; exact rpF_F zF) (fun _ _ => rfl) (by rw [← hV]; exact zC1) (by rw [if_pos h1, cf, if_pos h2, nI_clamp (show k < 2 ^ 31 by omega)]; exact ⟨rfl, rfl⟩))
    ·
      refine Ct_of (by decide) (Nat.le_of_ble_eq_true rfl) (fun G hG => ?_)
      refine r_aload_n 0 rfl dX11_prime_0 ?_
      refine r_iconst (v := 0) rfl dX11_prime_1 ?_
      refine r_puti dX11_prime_2 fl_X11_3 rfl rfl rfl ?_
      refine r_mem hV.symm rfl rfl ?_
      refine r_aload_n 0 rfl dX11_prime_5 ?_
      refine r_iload_n 1 rfl dX11_prime_6 ?_
      refine r_Vf [.int _] dX11_prime_7 lk_X11_344 mb_X11_refuses in_X11_refuses se_X11_refuses rfl (c_X11_refuses) rfl rfl rfl (Nat.le_of_ble_eq_true rfl) (rfl) ?_
      refine r_istore_n (ls2 := [(3, .int (rTr V (nI f))), (0, .ref 124), (1, .int (nI f)), (2, .int y)]) dX11_prime_10 (by decide) rfl ?_
      refine r_iload_n 0 rfl dX11_prime_11 ?_
      refine r_ifle (tgt := 21) dX11_prime_12 (by decide) (fun zh12 => ?_) (fun zh12 => ?_)
      rotate_left
      · exact absurd zh12 (fun q => q (by rw [h1]; exact Int32.le_refl 0))
      refine r_aload_n 1 rfl dX11_prime_21 ?_
      refine r_iload_n 2 rfl dX11_prime_22 ?_
      refine r_Vg [.int _] dX11_prime_23 lk_X11_391 mb_X11_primesOf in_X11_primesOf se_X11_primesOf rfl (c_X11_primesOf hM hA hS hAr hP hf hcV.1 rfl (fun g _ => plR_len _ _ _ _)) rfl rfl rfl (Nat.le_of_ble_eq_true rfl) (rfl) (fun r zW zB zC hz => ?_)
      obtain ⟨rfl, rfl, rfl, zF, zI, z1⟩ := hz
      have zC1 := rCc_p hf hcV zF zI z1
      show RW X G _ _ _ _ _ _ _ _ _ _ _ _ _ []
      refine r_iload_n 3 rfl dX11_prime_26 ?_
      refine r_iflt (tgt := 40) dX11_prime_27 (by decide) (fun zh27 => ?_) (fun zh27 => ?_)
      · refine r_aload_n 1 rfl dX11_prime_40 ?_
        refine r_iconst (v := 1) rfl dX11_prime_41 ?_
        refine r_Vf [.int _] dX11_prime_42 lk_X11_251 mb_X11_refused in_X11_refused se_X11_refused rfl (c_X11_refused) rfl rfl rfl (Nat.le_of_ble_eq_true rfl) (rfl) ?_
        exact r_iret hG dX11_prime_45 (rq_end (by rw [← hV]; exact rpF_F zF) (fun _ _ => rfl) (by rw [← hV]; exact zC1) (by rw [if_pos h1, cf, if_neg h2]; exact ⟨rfl, rfl⟩))
      · refine r_iload_n 3 rfl dX11_prime_30 ?_
        refine r_aload_n 1 rfl dX11_prime_31 ?_
        refine r_getr dX11_prime_32 fl_X11_77 rfl (hM _ _ _ rfl) ?_
        refine r_iload_n 2 rfl dX11_prime_35 ?_
        refine r_iald dX11_prime_36 rfl (vp_in_nI hf (by decide)) ?_
        refine r_icmplt (tgt := 46) dX11_prime_37 (by decide) (fun zh37 => ?_) (fun zh37 => ?_)
        · rw [cf, (rCc_pl hf zC1 z1).1] at zh37
          exact absurd (inR_t.mpr ⟨zh27, Int32.not_le.mpr zh37⟩) h2
        · refine r_aload_n 1 rfl dX11_prime_40 ?_
          refine r_iconst (v := 1) rfl dX11_prime_41 ?_
          refine r_Vf [.int _] dX11_prime_42 lk_X11_251 mb_X11_refused in_X11_refused se_X11_refused rfl (c_X11_refused) rfl rfl rfl (Nat.le_of_ble_eq_true rfl) (rfl) ?_
          exact r_iret hG dX11_prime_45 (rq_end (by rw [← hV]; exact rpF_F zF) (fun _ _ => rfl) (by rw [← hV]; exact zC1) (by rw [if_pos h1, cf, if_neg h2]; exact ⟨rfl, rfl⟩))
  · have hp : 0 < rTr V x := rTr_0.resolve_left h1
    refine Ct_of (by decide) (Nat.le_of_ble_eq_true rfl) (fun G hG => ?_)
    refine r_aload_n 0 rfl dX11_prime_0 ?_
    refine r_iconst (v := 0) rfl dX11_prime_1 ?_
    refine r_puti dX11_prime_2 fl_X11_3 rfl rfl rfl ?_
    refine r_mem hV.symm rfl rfl ?_
    refine r_aload_n 0 rfl dX11_prime_5 ?_
    refine r_iload_n 1 rfl dX11_prime_6 ?_
    refine r_Vf [.int _] dX11_prime_7 lk_X11_344 mb_X11_refuses in_X11_refuses se_X11_refuses rfl (c_X11_refuses) rfl rfl rfl (Nat.le_of_ble_eq_true rfl) (rfl) ?_
    refine r_istore_n (ls2 := [(3, .int (rTr V x)), (0, .ref 124), (1, .int x), (2, .int y)]) dX11_prime_10 (by decide) rfl ?_
    refine r_iload_n 0 rfl dX11_prime_11 ?_
    refine r_ifle (tgt := 21) dX11_prime_12 (by decide) (fun zh12 => ?_) (fun zh12 => ?_)
    · exact absurd zh12 (Int32.not_le.mpr hp)
    refine r_aload_n 1 rfl dX11_prime_15 ?_
    refine r_iload_n 0 rfl dX11_prime_16 ?_
    refine r_Vf [.int _] dX11_prime_17 lk_X11_251 mb_X11_refused in_X11_refused se_X11_refused rfl (c_X11_refused) rfl rfl rfl (Nat.le_of_ble_eq_true rfl) (rfl) ?_
    exact r_iret hG dX11_prime_20 (rq_end (by rw [← hV]; exact rF_rf _) (fun _ _ => rfl) (by rw [← hV]; exact hcV) (by rw [if_neg h1]; exact ⟨rfl, rfl⟩))
end rform

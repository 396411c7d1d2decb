/-! the reference: feedback, shown -/
def vaI (W : Mi) (f : Nat) (p : Int32) : Int32 := rcP W (nI f) (numC p 0 6).toNatClampNeg
def gr (W : Mi) (c r : Int32) : Mi := u2 (u2 W 124 44 c) 124 45 r
theorem gr_c {W : Mi} {c r : Int32} : gr W c r 124 44 = c := by unfold gr; rw [u2_ne _ _ (by decide)]; exact u2_eq _ _ _ _
theorem gr_r {W : Mi} {c r : Int32} : gr W c r 124 45 = r := u2_eq _ _ _ _
theorem gr_b {W : Mi} {c r : Int32} {b : Nat} (h : b ≠ 124) : gr W c r b = W b := by unfold gr; rw [u2_row _ _ h, u2_row _ _ h]
theorem gr_n {W : Mi} {c r : Int32} {j : Nat} (h1 : j ≠ 44) (h2 : j ≠ 45) : gr W c r 124 j = W 124 j := by unfold gr; rw [u2_ne _ _ (by omega), u2_ne _ _ (by omega)]
theorem gr_45 {W : Mi} {c r x : Int32} : u2 (gr W c r) 124 45 x = gr W c x := by
  unfold gr
  funext b j
  simp only [u2]
  grind
theorem gr_44 {W : Mi} {c r x : Int32} : u2 (gr W c r) 124 44 x = gr W x r := by
  unfold gr
  funext b j
  simp only [u2]
  grind
def grN (W : Mi) (i c : Int32) : Int32 := vaI W 3 (i ||| c <<< ((4 : Int32) &&& 31)) ||| vaI W 4 (i ||| c <<< ((4 : Int32) &&& 31)) <<< ((1 : Int32) &&& 31)
def grS (W : Mi) (i : Int32) : Nat → Int32 → Nat → Int32 × Int32
  | 0, c, _ => (c, -2)
  | m + 1, c, r => if grN W i c = c then (c, nI r) else grS W i m (grN W i c) (r + 1)
def grF (W : Mi) (i : Nat) : Int32 × Int32 := grS W (W 135 (arR W i 1).toNatClampNeg) 8 (W 128 (arR W i 0).toNatClampNeg) 0
def rrT (W : Mi) (x : Int32) : Int32 := if rIA W x = true then (if 0 < W 124 27 then 5 else if inB (W 145 3) 0 5 = true then (if inB (W 145 4) 0 5 = true then 0 else 5) else 5) else 1
def rrK (W : Mi) (x : Int32) : Prop := rIA W x = true → ¬ 0 < W 124 27 → W 141 3 = 1 ∧ (inB (W 145 3) 0 5 = true → W 141 4 = 1)
section rrounds
variable {X : xG} {n : Nat} {MI : Nat → Nat → Int32} {ML : Nat → Nat → Int64} {MR : Nat → Nat → Option Nat}
theorem rq_end2 {W : Mi} {B : Nat → Nat → Int64} {A b : Nat} {P : Mi → Int32 → Int32 → Prop} {a w c r : Int32} (hF : rF (th MI) W) (hB : ∀ c, c ≠ 148 → B c = ML c) (hC : rCc (th MI) ML A b W) (hP : P (rfM (gr W c r) w) a w) : rQ MI ML MR A b P (some (.int a)) (rfM (gr W c r) w) B MR := by
  obtain ⟨-, -, ⟨f1, f2⟩, hCc, h0, h2, -⟩ := rq_end (MI := MI) (ML := ML) (MR := MR) (P := fun _ _ _ => True) (a := a) (w := w) hF hB hC trivial
  have row : ∀ b, b ≠ 124 → rfM (gr W c r) w b = rfM W w b := fun b h => by unfold rfM; rw [u2_row _ _ h, u2_row _ _ h, u2_row _ _ h, u2_row _ _ h, gr_b h]
  have col : ∀ j, j ≠ 44 → j ≠ 45 → rfM (gr W c r) w 124 j = rfM W w 124 j := fun j h1 h2 => by
    unfold rfM
    simp only [u2]
    rw [gr_n h1 h2]
  have e1 : rfM (gr W c r) w 124 1 = w := by unfold rfM; rw [u2_ne _ _ (by omega)]; exact u2_eq _ _ _ _
  refine ⟨rfl, hB, ⟨fun b h1 h2 => (row b h1).trans (f1 b h1 h2), fun j h0 h1 h2 h3 h4 h5 h6 => (col j h5 h6).trans (f2 j h0 h1 h2 h3 h4 h5 h6)⟩, ⟨fun g hg => ?_, fun g hg => ?_⟩, (col 0 (by decide) (by decide)).trans h0, (col 2 (by decide) (by decide)).trans h2, a, rfl, by rw [e1]; exact hP⟩
  · rw [row 140 (by decide), row 143 (by decide), row 144 (by decide)]; exact hCc.1 g hg
  · rw [row 140 (by decide), row 141 (by decide), row 145 (by decide), row 146 (by decide)]; exact hCc.2 g hg
set_option maxRecDepth 100000 in
theorem c_X11_valueAt (hM : x_Lay MR) (hmu : muOK MI) {f q : Nat} (hf : f < 5) (hq : q ≤ 5) (hqe : MI 145 f = nI q) (h : ccOK MI f q) {p : Int32} : Cf X yX11_valueAt cX11_valueAt 3 (some .int) 3 [.ref 124, .int (nI f), .int p] n SH MI ML MR (some (.int (vaI MI f p))) MI ML MR := by
  obtain ⟨m, hm, hme⟩ := numC_in p 0
  have e : vaI MI f p = nI (rcS (ccN MI f) m q) := by unfold vaI rcP; rw [hme, nI_clamp (show m < 2 ^ 31 by omega), nI_clamp (show f < 2 ^ 31 by omega), hqe, nI_clamp (by omega)]
  rw [e]
  refine Ct_of (by decide) (Nat.le_of_ble_eq_true rfl) (fun G hG => ?_)
  refine r_aload_n 0 rfl dX11_valueAt_0 ?_
  refine r_iload_n 1 rfl dX11_valueAt_1 ?_
  refine r_iload_n 2 rfl dX11_valueAt_2 ?_
  refine r_iconst (v := 0) rfl dX11_valueAt_3 ?_
  refine r_Sf [.int _, .int _] dX11_valueAt_4 lk_X11_245 mb_X11_cubeOf sc_X11_cubeOf rfl (c_X11_cubeOf) rfl (Nat.le_of_ble_eq_true rfl) (rfl) ?_
  rw [hme]
  refine r_iconst (v := 0) rfl dX11_valueAt_7 ?_
  refine r_Vf [.int _, .int _, .int _] dX11_valueAt_8 lk_X11_464 mb_X11_runs in_X11_runs se_X11_runs rfl (c_X11_runs_0 hM hmu hf hq hqe h hm) rfl rfl rfl (Nat.le_of_ble_eq_true rfl) (rfl) ?_
  exact r_iret hG dX11_valueAt_11 (⟨rfl, rfl, rfl, rfl⟩)
set_option maxRecDepth 100000 in
theorem c_X11_goesRound (hM : x_Lay MR) (hmu : muOK MI) {A S i q3 q4 : Nat} (hA : A ≤ 8) (hS : S ≤ 6) (hP : okA (arR MI) A S) (hi : i < A) (h3 : q3 ≤ 5) (e3 : MI 145 3 = nI q3) (c3 : ccOK MI 3 q3) (h4 : q4 ≤ 5) (e4 : MI 145 4 = nI q4) (c4 : ccOK MI 4 q4) : Cf X yX11_goesRound cX11_goesRound 6 none 4 [.ref 124, .int (nI i)] n SH MI ML MR none (gr MI (grF MI i).1 (grF MI i).2) ML MR := by
  obtain ⟨⟨fr, hfr, hfre⟩, ⟨to, hto, htoe⟩⟩ := hP i hi
  obtain ⟨inp, hinp⟩ : ∃ inp, inp = MI 135 to := ⟨_, rfl⟩
  have eF : grF MI i = grS MI inp 8 (MI 128 fr) 0 := by unfold grF; rw [hfre, htoe, nI_clamp (by omega), nI_clamp (by omega), hinp]
  rw [eF]
  obtain ⟨F, hF⟩ : ∃ F, F = grS MI inp 8 (MI 128 fr) 0 := ⟨_, rfl⟩
  rw [← hF]
  refine Ct_of (by decide) (Nat.le_of_ble_eq_true rfl) (fun G hG => ?_)
  have loop : ∀ k, k ≤ 8 → ∀ c, grS MI inp (8 - k) c k = F → RW X G RX11 cX11_goesRound 6 (x_rm 4 0 0) n SH (gr MI c (-2)) ML MR 0 0 34 [(3, .int (nI k)), (2, .int inp), (0, .ref 124), (1, .int (nI i))] [] := by
    refine bwd (fun k hk ih c hc => ?_)
    have v3 : ∀ p, Cf X yX11_valueAt cX11_valueAt 3 (some .int) 3 [.ref 124, .int (nI 3), .int p] n SH (gr MI c (-2)) ML MR (some (.int (vaI MI 3 p))) (gr MI c (-2)) ML MR := fun p => c_X11_valueAt (X := X) (n := n) (MI := gr MI c (-2)) (ML := ML) (MR := MR) (f := 3) hM hmu (by decide) h3 e3 c3
    have v4 : ∀ p, Cf X yX11_valueAt cX11_valueAt 3 (some .int) 3 [.ref 124, .int (nI 4), .int p] n SH (gr MI c (-2)) ML MR (some (.int (vaI MI 4 p))) (gr MI c (-2)) ML MR := fun p => c_X11_valueAt (X := X) (n := n) (MI := gr MI c (-2)) (ML := ML) (MR := MR) (f := 4) hM hmu (by decide) h4 e4 c4
    refine r_iload_n 0 rfl dX11_goesRound_34 ?_
    refine r_bipush (v := 8) rfl dX11_goesRound_35 ?_
    refine r_icmpge (tgt := 96) dX11_goesRound_37 (by decide) (fun zh37 => ?_) (fun zh37 => ?_)
    · have hke : k = 8 := by have := geL (k := 8) (by decide) (by omega) zh37; omega
      exact r_vret hG dX11_goesRound_96 (by
          rw [hke, Nat.sub_self, grS] at hc
          rw [← hc]
          exact ⟨rfl, rfl, rfl, rfl⟩)
    · have hlt : k < 8 := ltL (by omega) zh37
      rw [show 8 - k = (8 - (k + 1)) + 1 by omega, grS] at hc
      refine r_iload_n 1 rfl dX11_goesRound_40 ?_
      refine r_aload_n 2 rfl dX11_goesRound_41 ?_
      refine r_geti dX11_goesRound_42 fl_X11_468 rfl ?_
      rw [gr_c]
      refine r_iconst (v := 4) rfl dX11_goesRound_45 ?_
      refine r_ishl dX11_goesRound_46 ?_
      refine r_ior dX11_goesRound_47 ?_
      refine r_nmi (fun zv48 ze48 => ?_)
      refine r_istore (ls2 := [(4, .int zv48), (3, .int (nI k)), (2, .int inp), (0, .ref 124), (1, .int (nI i))]) dX11_goesRound_48 (by decide) rfl ?_
      refine r_aload_n 3 rfl dX11_goesRound_50 ?_
      refine r_iconst (v := 3) rfl dX11_goesRound_51 ?_
      refine r_iload 0 rfl dX11_goesRound_52 ?_
      refine r_Vf [.int _, .int _] dX11_goesRound_54 lk_X11_474 mb_X11_valueAt in_X11_valueAt se_X11_valueAt rfl (v3 _) rfl rfl rfl (Nat.le_of_ble_eq_true rfl) (rfl) ?_
      refine r_aload_n 3 rfl dX11_goesRound_57 ?_
      refine r_iconst (v := 4) rfl dX11_goesRound_58 ?_
      refine r_iload 0 rfl dX11_goesRound_59 ?_
      refine r_Vf [.int _, .int _] dX11_goesRound_61 lk_X11_474 mb_X11_valueAt in_X11_valueAt se_X11_valueAt rfl (v4 _) rfl rfl rfl (Nat.le_of_ble_eq_true rfl) (rfl) ?_
      refine r_iconst (v := 1) rfl dX11_goesRound_64 ?_
      refine r_ishl dX11_goesRound_65 ?_
      refine r_ior dX11_goesRound_66 ?_
      refine r_nmi (fun zv67 ze67 => ?_)
      refine r_istore (ls2 := [(5, .int zv67), (4, .int zv48), (3, .int (nI k)), (2, .int inp), (0, .ref 124), (1, .int (nI i))]) dX11_goesRound_67 (by decide) rfl ?_
      refine r_iload 0 rfl dX11_goesRound_69 ?_
      refine r_aload_n 4 rfl dX11_goesRound_71 ?_
      refine r_geti dX11_goesRound_72 fl_X11_468 rfl ?_
      rw [gr_c]
      have zg : zv67 = grN MI inp c := by rw [ze67, ze48]; rfl
      refine r_icmpne (tgt := 84) dX11_goesRound_75 (by decide) (fun zh75 => ?_) (fun zh75 => ?_)
      · refine r_aload_n 4 rfl dX11_goesRound_84 ?_
        refine r_iload 0 rfl dX11_goesRound_85 ?_
        refine r_puti dX11_goesRound_87 fl_X11_468 rfl rfl rfl ?_
        refine r_iinc (v := (nI (k + 1))) (ls2 := [(3, .int (nI (k + 1))), (5, .int zv67), (4, .int zv48), (2, .int inp), (0, .ref 124), (1, .int (nI i))]) 2 dX11_goesRound_90 rfl (x_inc k) (by decide) rfl ?_
        refine r_goto (tgt := 34) dX11_goesRound_93 (by decide) ?_
        have y1 : ¬ grN MI inp c = c := fun z => zh75 (zg.trans z)
        rw [if_neg y1] at hc
        rw [gr_44, zg]
        exact r_sub [0, 3, 4, 5] rfl (ih hlt _ hc)
      · refine r_aload_n 4 rfl dX11_goesRound_78 ?_
        refine r_iload_n 2 rfl dX11_goesRound_79 ?_
        refine r_puti dX11_goesRound_80 fl_X11_471 rfl rfl rfl ?_
        exact r_vret hG dX11_goesRound_83 (by
            have y1 : grN MI inp c = c := zg.symm.trans zh75
            rw [if_pos y1] at hc
            rw [← hc, gr_45]
            exact ⟨rfl, rfl, rfl, rfl⟩)
  refine r_aload_n 0 rfl dX11_goesRound_0 ?_
  refine r_getr dX11_goesRound_1 fl_X11_53 rfl (hM _ _ _ rfl) ?_
  refine r_aload_n 0 rfl dX11_goesRound_4 ?_
  refine r_iload_n 1 rfl dX11_goesRound_5 ?_
  refine r_iconst (v := 1) rfl dX11_goesRound_6 ?_
  refine r_Vf [.int _, .int _] dX11_goesRound_7 lk_X11_270 mb_X11_arcOf in_X11_arcOf se_X11_arcOf rfl (c_X11_arcOf (j := 1) hM (show i < 8 by omega) (by decide)) rfl rfl rfl (Nat.le_of_ble_eq_true rfl) (rfl) ?_
  rw [htoe]
  refine r_iald dX11_goesRound_10 rfl (vp_in_nI (show to < 6 by omega) (by decide)) ?_
  rw [nI_clamp (show to < 2 ^ 31 by omega), ← hinp]
  refine r_istore_n (ls2 := [(2, .int inp), (0, .ref 124), (1, .int (nI i))]) dX11_goesRound_11 (by decide) rfl ?_
  refine r_aload_n 1 rfl dX11_goesRound_12 ?_
  refine r_aload_n 1 rfl dX11_goesRound_13 ?_
  refine r_aload_n 1 rfl dX11_goesRound_14 ?_
  refine r_iload_n 2 rfl dX11_goesRound_15 ?_
  refine r_iconst (v := 0) rfl dX11_goesRound_16 ?_
  refine r_Vf [.int _, .int _] dX11_goesRound_17 lk_X11_270 mb_X11_arcOf in_X11_arcOf se_X11_arcOf rfl (c_X11_arcOf (j := 0) hM (show i < 8 by omega) (by decide)) rfl rfl rfl (Nat.le_of_ble_eq_true rfl) (rfl) ?_
  rw [hfre]
  refine r_Vf [.int _] dX11_goesRound_20 lk_X11_310 mb_X11_codeOf in_X11_codeOf se_X11_codeOf rfl (c_X11_codeOf hM (show fr < 6 by omega)) rfl rfl rfl (Nat.le_of_ble_eq_true rfl) (rfl) ?_
  refine r_puti dX11_goesRound_23 fl_X11_468 rfl rfl rfl ?_
  refine r_aload_n 1 rfl dX11_goesRound_26 ?_
  refine r_bipush (v := (-2)) rfl dX11_goesRound_27 ?_
  refine r_puti dX11_goesRound_29 fl_X11_471 rfl rfl rfl ?_
  refine r_iconst (v := 0) rfl dX11_goesRound_32 ?_
  refine r_istore_n (ls2 := [(3, .int 0), (2, .int inp), (0, .ref 124), (1, .int (nI i))]) dX11_goesRound_33 (by decide) rfl ?_
  exact r_sub [0, 1, 2, 3] rfl (loop 0 (Nat.zero_le _) _ hF.symm)
set_option maxRecDepth 100000 in
theorem c_X11_refusesRounds (hM : x_Lay MR) {A S b : Nat} (hm : rMc MI A S b) (hc : rCc MI ML A b MI) {x : Int32} : Ct X yX11_refusesRounds cX11_refusesRounds 2 (some .int) 11 0 0 [.ref 124, .int x] n SH MI ML MR n SH (fun r W B C => C = MR ∧ (∀ c, c ≠ 148 → B c = ML c) ∧ rF MI W ∧ rCc MI ML A b W ∧ rrK W x ∧ r = some (.int (rrT W x))) := by
  have eA : ∀ W, rF MI W → rIA W x = rIA MI x := fun W h => by unfold rIA; rw [h.2 20 (by decide) (by decide), h.1 128 (by decide) (by decide)]
  have e27 : ∀ W, rF MI W → W 124 27 = MI 124 27 := fun W h => h.2 27 (by decide) (by decide)
  refine Ct_of (by decide) (Nat.le_of_ble_eq_true rfl) (fun G hG => ?_)
  refine r_aload_n 0 rfl dX11_refusesRounds_0 ?_
  refine r_iload_n 1 rfl dX11_refusesRounds_1 ?_
  refine r_Vf [.int _] dX11_refusesRounds_2 lk_X11_338 mb_X11_isArc in_X11_isArc se_X11_isArc rfl (c_X11_isArc hM) rfl rfl rfl (Nat.le_of_ble_eq_true rfl) (rfl) ?_
  refine r_ifne (tgt := 10) dX11_refusesRounds_5 (by decide) (fun zh5 => ?_) (fun zh5 => ?_)
  · refine r_aload_n 0 rfl dX11_refusesRounds_10 ?_
    refine r_geti dX11_refusesRounds_11 fl_X11_273 rfl ?_
    refine r_ifle (tgt := 19) dX11_refusesRounds_14 (by decide) (fun zh14 => ?_) (fun zh14 => ?_)
    · refine r_aload_n 0 rfl dX11_refusesRounds_19 ?_
      refine r_iconst (v := 3) rfl dX11_refusesRounds_20 ?_
      refine r_Vg [.int _] dX11_refusesRounds_21 lk_X11_415 mb_X11_hasCover in_X11_hasCover se_X11_hasCover rfl (c_X11_hasCover (f := 3) hM hm hc (by decide)) rfl rfl rfl (Nat.le_of_ble_eq_true rfl) (rfl) (fun r zW zB zC hz => ?_)
      obtain ⟨rfl, zB1, zF, zC1, z1, zK, rfl⟩ := hz
      show RW X G _ _ _ _ _ _ _ _ _ _ _ _ _ [.int (b2 (inB (zW 145 3) 0 5))]
      refine r_ifeq (tgt := 39) dX11_refusesRounds_24 (by decide) (fun zh24 => ?_) (fun zh24 => ?_)
      · refine r_iconst (v := 5) rfl dX11_refusesRounds_39 ?_
        exact r_iret hG dX11_refusesRounds_40 (by
            have y1 : rIA MI x = true := b2n.mp zh5
            have y2 : ¬ 0 < MI 124 27 := Int32.not_lt.mpr zh14
            first
              | (have y3 : inB (zW 145 3) 0 5 = true := b2n.mp zh24
                 have k3 := zK2 3 (by decide) (by decide)
                 have y4 : inB (zW2 145 4) 0 5 = true := b2n.mp zh32
                 refine ⟨rfl, fun c h => (zB3 c h).trans (zB1 c h), rF_tr zF zF2, (rCc_F zF zB1).mp zC3, fun _ _ => ⟨k3.1.trans z1, fun _ => z4⟩, ?_⟩
                 unfold rrT
                 rw [eA _ (rF_tr zF zF2), e27 _ (rF_tr zF zF2), if_pos y1, if_neg y2, k3.2.1, if_pos y3, if_pos y4])
              | (have y3 : inB (zW 145 3) 0 5 = true := b2n.mp zh24
                 have k3 := zK2 3 (by decide) (by decide)
                 have y4 : inB (zW2 145 4) 0 5 = false := b2z.mp zh32
                 have y5 : ¬ inB (zW2 145 4) 0 5 = true := by rw [y4]; decide
                 refine ⟨rfl, fun c h => (zB3 c h).trans (zB1 c h), rF_tr zF zF2, (rCc_F zF zB1).mp zC3, fun _ _ => ⟨k3.1.trans z1, fun _ => z4⟩, ?_⟩
                 unfold rrT
                 rw [eA _ (rF_tr zF zF2), e27 _ (rF_tr zF zF2), if_pos y1, if_neg y2, k3.2.1, if_pos y3, if_neg y5])
              | (have y3 : inB (zW 145 3) 0 5 = false := b2z.mp zh24
                 have y5 : ¬ inB (zW 145 3) 0 5 = true := by rw [y3]; decide
                 refine ⟨rfl, zB1, zF, zC1, fun _ _ => ⟨z1, fun q => absurd q y5⟩, ?_⟩
                 unfold rrT
                 rw [eA _ zF, e27 _ zF, if_pos y1, if_neg y2, if_neg y5]))
      · refine r_aload_n 0 rfl dX11_refusesRounds_27 ?_
        refine r_iconst (v := 4) rfl dX11_refusesRounds_28 ?_
        refine r_Vg [.int _] dX11_refusesRounds_29 lk_X11_415 mb_X11_hasCover in_X11_hasCover se_X11_hasCover rfl (c_X11_hasCover (f := 4) hM (rMc_F hm zF) ((rCc_F zF zB1).mpr zC1) (by decide)) rfl rfl rfl (Nat.le_of_ble_eq_true rfl) (rfl) (fun r zW2 zB2 zC2 hz2 => ?_)
        obtain ⟨rfl, zB3, zF2, zC3, z4, zK2, rfl⟩ := hz2
        show RW X G _ _ _ _ _ _ _ _ _ _ _ _ _ [.int (b2 (inB (zW2 145 4) 0 5))]
        refine r_ifeq (tgt := 39) dX11_refusesRounds_32 (by decide) (fun zh32 => ?_) (fun zh32 => ?_)
        · refine r_iconst (v := 5) rfl dX11_refusesRounds_39 ?_
          exact r_iret hG dX11_refusesRounds_40 (by
              have y1 : rIA MI x = true := b2n.mp zh5
              have y2 : ¬ 0 < MI 124 27 := Int32.not_lt.mpr zh14
              first
                | (have y3 : inB (zW 145 3) 0 5 = true := b2n.mp zh24
                   have k3 := zK2 3 (by decide) (by decide)
                   have y4 : inB (zW2 145 4) 0 5 = true := b2n.mp zh32
                   refine ⟨rfl, fun c h => (zB3 c h).trans (zB1 c h), rF_tr zF zF2, (rCc_F zF zB1).mp zC3, fun _ _ => ⟨k3.1.trans z1, fun _ => z4⟩, ?_⟩
                   unfold rrT
                   rw [eA _ (rF_tr zF zF2), e27 _ (rF_tr zF zF2), if_pos y1, if_neg y2, k3.2.1, if_pos y3, if_pos y4])
                | (have y3 : inB (zW 145 3) 0 5 = true := b2n.mp zh24
                   have k3 := zK2 3 (by decide) (by decide)
                   have y4 : inB (zW2 145 4) 0 5 = false := b2z.mp zh32
                   have y5 : ¬ inB (zW2 145 4) 0 5 = true := by rw [y4]; decide
                   refine ⟨rfl, fun c h => (zB3 c h).trans (zB1 c h), rF_tr zF zF2, (rCc_F zF zB1).mp zC3, fun _ _ => ⟨k3.1.trans z1, fun _ => z4⟩, ?_⟩
                   unfold rrT
                   rw [eA _ (rF_tr zF zF2), e27 _ (rF_tr zF zF2), if_pos y1, if_neg y2, k3.2.1, if_pos y3, if_neg y5])
                | (have y3 : inB (zW 145 3) 0 5 = false := b2z.mp zh24
                   have y5 : ¬ inB (zW 145 3) 0 5 = true := by rw [y3]; decide
                   refine ⟨rfl, zB1, zF, zC1, fun _ _ => ⟨z1, fun q => absurd q y5⟩, ?_⟩
                   unfold rrT
                   rw [eA _ zF, e27 _ zF, if_pos y1, if_neg y2, if_neg y5]))
        · refine r_iconst (v := 0) rfl dX11_refusesRounds_35 ?_
          refine r_goto (tgt := 40) dX11_refusesRounds_36 (by decide) ?_
          exact r_iret hG dX11_refusesRounds_40 (by
              have y1 : rIA MI x = true := b2n.mp zh5
              have y2 : ¬ 0 < MI 124 27 := Int32.not_lt.mpr zh14
              first
                | (have y3 : inB (zW 145 3) 0 5 = true := b2n.mp zh24
                   have k3 := zK2 3 (by decide) (by decide)
                   have y4 : inB (zW2 145 4) 0 5 = true := b2n.mp zh32
                   refine ⟨rfl, fun c h => (zB3 c h).trans (zB1 c h), rF_tr zF zF2, (rCc_F zF zB1).mp zC3, fun _ _ => ⟨k3.1.trans z1, fun _ => z4⟩, ?_⟩
                   unfold rrT
                   rw [eA _ (rF_tr zF zF2), e27 _ (rF_tr zF zF2), if_pos y1, if_neg y2, k3.2.1, if_pos y3, if_pos y4])
                | (have y3 : inB (zW 145 3) 0 5 = true := b2n.mp zh24
                   have k3 := zK2 3 (by decide) (by decide)
                   have y4 : inB (zW2 145 4) 0 5 = false := b2z.mp zh32
                   have y5 : ¬ inB (zW2 145 4) 0 5 = true := by rw [y4]; decide
                   refine ⟨rfl, fun c h => (zB3 c h).trans (zB1 c h), rF_tr zF zF2, (rCc_F zF zB1).mp zC3, fun _ _ => ⟨k3.1.trans z1, fun _ => z4⟩, ?_⟩
                   unfold rrT
                   rw [eA _ (rF_tr zF zF2), e27 _ (rF_tr zF zF2), if_pos y1, if_neg y2, k3.2.1, if_pos y3, if_neg y5])
                | (have y3 : inB (zW 145 3) 0 5 = false := b2z.mp zh24
                   have y5 : ¬ inB (zW 145 3) 0 5 = true := by rw [y3]; decide
                   refine ⟨rfl, zB1, zF, zC1, fun _ _ => ⟨z1, fun q => absurd q y5⟩, ?_⟩
                   unfold rrT
                   rw [eA _ zF, e27 _ zF, if_pos y1, if_neg y2, if_neg y5]))
    · refine r_iconst (v := 5) rfl dX11_refusesRounds_17 ?_
      exact r_iret hG dX11_refusesRounds_18 (by
          have y1 : rIA MI x = true := b2n.mp zh5
          have y2 : 0 < MI 124 27 := Int32.not_le.mp zh14
          exact ⟨rfl, fun _ _ => rfl, rF_rf _, hc, fun _ q => absurd y2 q, by unfold rrT; rw [if_pos y1, if_pos y2]⟩)
  · refine r_iconst (v := 1) rfl dX11_refusesRounds_8 ?_
    exact r_iret hG dX11_refusesRounds_9 (by
        have y1 : ¬ rIA MI x = true := by rw [b2z.mp zh5]; decide
        exact ⟨rfl, fun _ _ => rfl, rF_rf _, hc, fun q => absurd q y1, by unfold rrT; rw [if_neg y1]⟩)
end rrounds

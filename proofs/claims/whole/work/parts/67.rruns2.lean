/-! the reference: run, runBurst -/
def rrG (V : Mi) (x y : Int32) (g : Nat) : Int32 × Int32 := if rTr V x = 0 then (if inB y 0 728 = true then (nI (rgS V x y.toNatClampNeg g), 0) else (-1, 2)) else (-1, rTr V x)
def rcP (W : Mi) (x : Int32) (d : Nat) : Int32 := nI (rcS (ccN W x.toNatClampNeg) d (W 145 x.toNatClampNeg).toNatClampNeg)
def rrC (W : Mi) (x y : Int32) : Int32 × Int32 := if rcT W x = 0 then (if inB y 0 728 = true then (rcP W x y.toNatClampNeg, 0) else (-1, 2)) else (-1, rcT W x)
def rbG (V : Mi) (x y : Int32) (g : Nat) : Int32 × Int32 := if rIF V x = true ∧ rIA V y = true then (if rTr V x = 0 then (nI (rgS V x (bcR V y.toNatClampNeg).toNatClampNeg g), 0) else (-1, rTr V x)) else (-1, 1)
def rbC (W : Mi) (x y : Int32) : Int32 × Int32 := if rIF W x = true ∧ rIA W y = true then (if rcT W x = 0 then (rcP W x (bcR W y.toNatClampNeg).toNatClampNeg, 0) else (-1, rcT W x)) else (-1, 1)
section rruns2
variable {X : xG} {n : Nat} {MI : Nat → Nat → Int32} {ML : Nat → Nat → Int64} {MR : Nat → Nat → Option Nat}
set_option maxRecDepth 100000 in
theorem c_X11_refusesRun_1 {x z : Int32} (hz : ¬ z = 0) : Cf X yX11_refusesRun cX11_refusesRun 3 (some .int) 12 [.ref 124, .int x, .int z] n SH MI ML MR (some (.int (rTr MI x))) MI ML MR := by
  refine Ct_of (by decide) (Nat.le_of_ble_eq_true rfl) (fun G hG => ?_)
  refine r_iload_n 2 rfl dX11_refusesRun_0 ?_
  refine r_ifeq (tgt := 12) dX11_refusesRun_1 (by decide) (fun zh1 => ?_) (fun zh1 => ?_)
  · exact absurd zh1 (hz)
  refine r_aload_n 0 rfl dX11_refusesRun_4 ?_
  refine r_iload_n 1 rfl dX11_refusesRun_5 ?_
  refine r_Vf [.int _] dX11_refusesRun_6 lk_X11_344 mb_X11_refuses in_X11_refuses se_X11_refuses rfl (c_X11_refuses) rfl rfl rfl (Nat.le_of_ble_eq_true rfl) (rfl) ?_
  refine r_goto (tgt := 17) dX11_refusesRun_9 (by decide) ?_
  exact r_iret hG dX11_refusesRun_17 (⟨rfl, rfl, rfl, rfl⟩)
set_option maxRecDepth 100000 in
theorem c_X11_refusesRun_0 (hM : x_Lay MR) {A S b : Nat} (hm : rMc MI A S b) (hc : rCc MI ML A b MI) {x : Int32} : Ct X yX11_refusesRun cX11_refusesRun 3 (some .int) 12 0 0 [.ref 124, .int x, .int 0] n SH MI ML MR n SH (fun r W B C => C = MR ∧ (∀ c, c ≠ 148 → B c = ML c) ∧ rF MI W ∧ rCc MI ML A b W ∧ (rTr W x = 0 → W 141 x.toNatClampNeg = 1) ∧ r = some (.int (rcT W x))) := by
  refine Ct_of (by decide) (Nat.le_of_ble_eq_true rfl) (fun G hG => ?_)
  refine r_iload_n 2 rfl dX11_refusesRun_0 ?_
  refine r_ifeq (tgt := 12) dX11_refusesRun_1 (by decide) (fun zh1 => ?_) (fun zh1 => ?_)
  rotate_left
  · exact absurd zh1 (fun q => q rfl)
  refine r_aload_n 0 rfl dX11_refusesRun_12 ?_
  refine r_iload_n 1 rfl dX11_refusesRun_13 ?_
  refine r_Vg [.int _] dX11_refusesRun_14 lk_X11_418 mb_X11_refusesCover in_X11_refusesCover se_X11_refusesCover rfl (c_X11_refusesCover hM hm hc) rfl rfl rfl (Nat.le_of_ble_eq_true rfl) (rfl) (fun r zW zB zC hz => ?_)
  obtain ⟨rfl, zB1, zF, zC1, z1, rfl⟩ := hz
  show RW X G _ _ _ _ _ _ _ _ _ _ _ _ _ [.int (rcT zW x)]
  exact r_iret hG dX11_refusesRun_17 (⟨rfl, zB1, zF, zC1, z1, rfl⟩)
set_option maxRecDepth 100000 in
theorem c_X11_run_1 (hM : x_Lay MR) (hmu : muOK MI) {g : Nat} (hg : gOK MI g) {x y z : Int32} (hz : ¬ z = 0) : Cf X yX11_run cX11_run 5 (some .int) 13 [.ref 124, .int x, .int y, .int z] n SH MI ML MR (some (.int (rrG (th MI) x y g).1)) (rfM (th MI) (rrG (th MI) x y g).2) ML MR := by
  obtain ⟨V, hV⟩ : ∃ V, V = th MI := ⟨_, rfl⟩
  have hmuV : muOK V := by rw [hV]; exact hmu
  have hgV : gOK V g := by rw [hV]; exact hg
  rw [← hV]
  refine Ct_of (by decide) (Nat.le_of_ble_eq_true rfl) (fun G hG => ?_)
  have j32 : ∀ t, t = (rrG V x y g).2 → RW X G RX11 cX11_run 5 (x_rm 13 0 0) n SH V ML MR 0 0 32 [(4, .int t), (0, .ref 124), (1, .int x), (2, .int y), (3, .int z)] [] := by
    intro t ht
    by_cases h1 : rTr V x = 0
    · by_cases h2 : inB y 0 728 = true
      · obtain ⟨d, hd, rfl⟩ := inB_ex (N := 728) (by decide) h2
        have e : rrG V x (nI d) g = (nI (rgS V x d g), 0) := by unfold rrG; rw [if_pos h1, if_pos h2, nI_clamp (by omega)]
        have ht0 : t = 0 := by rw [ht, e]
        subst ht0
        refine r_iload 0 rfl dX11_run_32 ?_
        refine r_ifle (tgt := 44) dX11_run_34 (by decide) (fun zh34 => ?_) (fun zh34 => ?_)
        rotate_left
        · exact absurd zh34 (by decide)
        refine r_aload_n 1 rfl dX11_run_44 ?_
        refine r_aload_n 1 rfl dX11_run_45 ?_
        refine r_iload_n 2 rfl dX11_run_46 ?_
        refine r_iload_n 3 rfl dX11_run_47 ?_
        refine r_iload_n 4 rfl dX11_run_48 ?_
        refine r_Vf [.int _, .int _, .int _] dX11_run_49 lk_X11_464 mb_X11_runs in_X11_runs se_X11_runs rfl (c_X11_runs_1 hM hmuV hgV (show d < 729 by omega) hz) rfl rfl rfl (Nat.le_of_ble_eq_true rfl) (rfl) ?_
        refine r_Vf [.int _] dX11_run_52 lk_X11_267 mb_X11_good in_X11_good se_X11_good rfl (c_X11_good) rfl rfl rfl (Nat.le_of_ble_eq_true rfl) (rfl) ?_
        exact r_iret hG dX11_run_55 (by rw [e]; exact ⟨rfl, rfl, rfl, rfl⟩)
      · have e : rrG V x y g = (-1, 2) := by unfold rrG; rw [if_pos h1, if_neg h2]
        have ht0 : t = 2 := by rw [ht, e]
        subst ht0
        refine r_iload 0 rfl dX11_run_32 ?_
        refine r_ifle (tgt := 44) dX11_run_34 (by decide) (fun zh34 => ?_) (fun zh34 => ?_)
        · exact absurd zh34 (by decide)
        refine r_aload_n 1 rfl dX11_run_37 ?_
        refine r_iload 0 rfl dX11_run_38 ?_
        refine r_Vf [.int _] dX11_run_40 lk_X11_251 mb_X11_refused in_X11_refused se_X11_refused rfl (c_X11_refused) rfl rfl rfl (Nat.le_of_ble_eq_true rfl) (rfl) ?_
        exact r_iret hG dX11_run_43 (by rw [e]; exact ⟨rfl, rfl, rfl, rfl⟩)
    · have hp : 0 < rTr V x := rTr_0.resolve_left h1
      have e : rrG V x y g = (-1, rTr V x) := by unfold rrG; rw [if_neg h1]
      have ht0 : t = rTr V x := by rw [ht, e]
      subst ht0
      refine r_iload 0 rfl dX11_run_32 ?_
      refine r_ifle (tgt := 44) dX11_run_34 (by decide) (fun zh34 => ?_) (fun zh34 => ?_)
      · exact absurd zh34 (Int32.not_le.mpr hp)
      refine r_aload_n 1 rfl dX11_run_37 ?_
      refine r_iload 0 rfl dX11_run_38 ?_
      refine r_Vf [.int _] dX11_run_40 lk_X11_251 mb_X11_refused in_X11_refused se_X11_refused rfl (c_X11_refused) rfl rfl rfl (Nat.le_of_ble_eq_true rfl) (rfl) ?_
      exact r_iret hG dX11_run_43 (by rw [e]; exact ⟨rfl, rfl, rfl, rfl⟩)
  refine r_aload_n 0 rfl dX11_run_0 ?_
  refine r_iconst (v := 0) rfl dX11_run_1 ?_
  refine r_puti dX11_run_2 fl_X11_3 rfl rfl rfl ?_
  refine r_mem hV.symm rfl rfl ?_
  refine r_aload_n 0 rfl dX11_run_5 ?_
  refine r_iload_n 1 rfl dX11_run_6 ?_
  refine r_iload_n 3 rfl dX11_run_7 ?_
  refine r_Vf [.int _, .int _] dX11_run_8 lk_X11_460 mb_X11_refusesRun in_X11_refusesRun se_X11_refusesRun rfl (c_X11_refusesRun_1 hz) rfl rfl rfl (Nat.le_of_ble_eq_true rfl) (rfl) ?_
  refine r_istore (ls2 := [(4, .int (rTr V x)), (0, .ref 124), (1, .int x), (2, .int y), (3, .int z)]) dX11_run_11 (by decide) rfl ?_
  refine r_iload 0 rfl dX11_run_13 ?_
  refine r_ifne (tgt := 32) dX11_run_15 (by decide) (fun zh15 => ?_) (fun zh15 => ?_)
  · first
      | exact r_sub [0, 1, 2, 3, 4] rfl (j32 _ (by unfold rrG; rw [if_neg zh15]))
      | exact r_sub [0, 1, 2, 3, 4] rfl (j32 _ (by unfold rrG; rw [if_pos zh15, if_pos (b2n.mp zh26)]; exact zh15))
      | exact r_sub [0, 1, 2, 3, 4] rfl (j32 _ (by unfold rrG; rw [if_pos zh15, if_neg (show ¬ inB y 0 728 = true by rw [b2z.mp zh26]; decide)]))
  · refine r_iload_n 3 rfl dX11_run_18 ?_
    refine r_iconst (v := 0) rfl dX11_run_19 ?_
    refine r_sipush (v := 728) rfl dX11_run_20 ?_
    refine r_Sf [.int _, .int _, .int _] dX11_run_23 lk_X11_138 mb_X11_in sc_X11_in rfl (c_X11_in) rfl (Nat.le_of_ble_eq_true rfl) (rfl) ?_
    refine r_ifne (tgt := 32) dX11_run_26 (by decide) (fun zh26 => ?_) (fun zh26 => ?_)
    · first
        | exact r_sub [0, 1, 2, 3, 4] rfl (j32 _ (by unfold rrG; rw [if_neg zh15]))
        | exact r_sub [0, 1, 2, 3, 4] rfl (j32 _ (by unfold rrG; rw [if_pos zh15, if_pos (b2n.mp zh26)]; exact zh15))
        | exact r_sub [0, 1, 2, 3, 4] rfl (j32 _ (by unfold rrG; rw [if_pos zh15, if_neg (show ¬ inB y 0 728 = true by rw [b2z.mp zh26]; decide)]))
    · refine r_iconst (v := 2) rfl dX11_run_29 ?_
      refine r_istore (ls2 := [(4, .int 2), (0, .ref 124), (1, .int x), (2, .int y), (3, .int z)]) dX11_run_30 (by decide) rfl ?_
      first
        | exact r_sub [0, 1, 2, 3, 4] rfl (j32 _ (by unfold rrG; rw [if_neg zh15]))
        | exact r_sub [0, 1, 2, 3, 4] rfl (j32 _ (by unfold rrG; rw [if_pos zh15, if_pos (b2n.mp zh26)]; exact zh15))
        | exact r_sub [0, 1, 2, 3, 4] rfl (j32 _ (by unfold rrG; rw [if_pos zh15, if_neg (show ¬ inB y 0 728 = true by rw [b2z.mp zh26]; decide)]))
set_option maxRecDepth 100000 in
theorem c_X11_run_0 (hM : x_Lay MR) {A S b : Nat} (hm : rMc MI A S b) (hc : rCc MI ML A b MI) (hmu : muOK MI) {x y : Int32} : Ct X yX11_run cX11_run 5 (some .int) 13 0 0 [.ref 124, .int x, .int y, .int 0] n SH MI ML MR n SH (rQ MI ML MR A b (fun W a w => (rTr W x = 0 → W 141 x.toNatClampNeg = 1) ∧ a = (rrC W x y).1 ∧ w = (rrC W x y).2)) := by
  obtain ⟨V, hV⟩ : ∃ V, V = th MI := ⟨_, rfl⟩
  have hmV : rMc V A S b := by rw [hV]; exact rMc_th hm
  have hcV : rCc V ML A b V := by rw [hV]; exact rCc_th hc
  have hmuV : muOK V := by rw [hV]; exact hmu
  refine Ct_of (by decide) (Nat.le_of_ble_eq_true rfl) (fun G hG => ?_)
  have j32 : ∀ zW zB t, (∀ c, c ≠ 148 → zB c = ML c) → rF V zW → rCc V ML A b zW → (rTr zW x = 0 → zW 141 x.toNatClampNeg = 1) → t = (rrC zW x y).2 → RW X G RX11 cX11_run 5 (x_rm 13 0 0) n SH zW zB MR 0 0 32 [(4, .int t), (0, .ref 124), (1, .int x), (2, .int y), (3, .int 0)] [] := by
    intro zW zB t zB1 zF zC1 z1 ht
    have hend : ∀ a w, a = (rrC zW x y).1 → w = (rrC zW x y).2 → rQ MI ML MR A b (fun W a w => (rTr W x = 0 → W 141 x.toNatClampNeg = 1) ∧ a = (rrC W x y).1 ∧ w = (rrC W x y).2) (some (.int a)) (rfM zW w) zB MR := fun a w h h2 => rq_end (by rw [← hV]; exact zF) zB1 (by rw [← hV]; exact zC1) ⟨z1, h, h2⟩
    by_cases h1 : rcT zW x = 0
    · by_cases h2 : inB y 0 728 = true
      · obtain ⟨d, hd, rfl⟩ := inB_ex (N := 728) (by decide) h2
        obtain ⟨f, q, hf, rfl, hq, hqe, hcc⟩ := cc_of hmV.1 zC1 z1 h1
        have cf : (nI f).toNatClampNeg = f := nI_clamp (by omega)
        have e : rrC zW (nI f) (nI d) = (nI (rcS (ccN zW f) d q), 0) := by unfold rrC rcP; rw [if_pos h1, if_pos h2, cf, hqe, nI_clamp (by omega), nI_clamp (by omega)]
        have ht0 : t = 0 := by rw [ht, e]
        subst ht0
        refine r_iload 0 rfl dX11_run_32 ?_
        refine r_ifle (tgt := 44) dX11_run_34 (by decide) (fun zh34 => ?_) (fun zh34 => ?_)
        rotate_left
        · exact absurd zh34 (by decide)
        refine r_aload_n 1 rfl dX11_run_44 ?_
        refine r_aload_n 1 rfl dX11_run_45 ?_
        refine r_iload_n 2 rfl dX11_run_46 ?_
        refine r_iload_n 3 rfl dX11_run_47 ?_
        refine r_iload_n 4 rfl dX11_run_48 ?_
        refine r_Vf [.int _, .int _, .int _] dX11_run_49 lk_X11_464 mb_X11_runs in_X11_runs se_X11_runs rfl (c_X11_runs_0 hM (muOK_F zF hmuV) hf hq hqe hcc (show d < 729 by omega)) rfl rfl rfl (Nat.le_of_ble_eq_true rfl) (rfl) ?_
        refine r_Vf [.int _] dX11_run_52 lk_X11_267 mb_X11_good in_X11_good se_X11_good rfl (c_X11_good) rfl rfl rfl (Nat.le_of_ble_eq_true rfl) (rfl) ?_
        exact r_iret hG dX11_run_55 (hend _ _ (by rw [e]) (by rw [e]))
      · have e : rrC zW x y = (-1, 2) := by unfold rrC; rw [if_pos h1, if_neg h2]
        have ht0 : t = 2 := by rw [ht, e]
        subst ht0
        refine r_iload 0 rfl dX11_run_32 ?_
        refine r_ifle (tgt := 44) dX11_run_34 (by decide) (fun zh34 => ?_) (fun zh34 => ?_)
        · exact absurd zh34 (by decide)
        refine r_aload_n 1 rfl dX11_run_37 ?_
        refine r_iload 0 rfl dX11_run_38 ?_
        refine r_Vf [.int _] dX11_run_40 lk_X11_251 mb_X11_refused in_X11_refused se_X11_refused rfl (c_X11_refused) rfl rfl rfl (Nat.le_of_ble_eq_true rfl) (rfl) ?_
        exact r_iret hG dX11_run_43 (hend _ _ (by rw [e]) (by rw [e]))
    · have e : rrC zW x y = (-1, rcT zW x) := by unfold rrC; rw [if_neg h1]
      have ht0 : t = rcT zW x := by rw [ht, e]
      subst ht0
      refine r_iload 0 rfl dX11_run_32 ?_
      refine r_ifle (tgt := 44) dX11_run_34 (by decide) (fun zh34 => ?_) (fun zh34 => ?_)
      · exact absurd zh34 (Int32.not_le.mpr (rcT_p h1))
      refine r_aload_n 1 rfl dX11_run_37 ?_
      refine r_iload 0 rfl dX11_run_38 ?_
      refine r_Vf [.int _] dX11_run_40 lk_X11_251 mb_X11_refused in_X11_refused se_X11_refused rfl (c_X11_refused) rfl rfl rfl (Nat.le_of_ble_eq_true rfl) (rfl) ?_
      exact r_iret hG dX11_run_43 (hend _ _ (by rw [e]) (by rw [e]))
  refine r_aload_n 0 rfl dX11_run_0 ?_
  refine r_iconst (v := 0) rfl dX11_run_1 ?_
  refine r_puti dX11_run_2 fl_X11_3 rfl rfl rfl ?_
  refine r_mem hV.symm rfl rfl ?_
  refine r_aload_n 0 rfl dX11_run_5 ?_
  refine r_iload_n 1 rfl dX11_run_6 ?_
  refine r_iload_n 3 rfl dX11_run_7 ?_
  refine r_Vg [.int _, .int _] dX11_run_8 lk_X11_460 mb_X11_refusesRun in_X11_refusesRun se_X11_refusesRun rfl (c_X11_refusesRun_0 hM hmV hcV) rfl rfl rfl (Nat.le_of_ble_eq_true rfl) (rfl) (fun r zW zB zC hz => ?_)
  obtain ⟨rfl, zB1, zF, zC1, z1, rfl⟩ := hz
  show RW X G _ _ _ _ _ _ _ _ _ _ _ _ _ [.int (rcT zW x)]
  refine r_istore (ls2 := [(4, .int (rcT zW x)), (0, .ref 124), (1, .int x), (2, .int y), (3, .int 0)]) dX11_run_11 (by decide) rfl ?_
  refine r_iload 0 rfl dX11_run_13 ?_
  refine r_ifne (tgt := 32) dX11_run_15 (by decide) (fun zh15 => ?_) (fun zh15 => ?_)
  · first
      | exact r_sub [0, 1, 2, 3, 4] rfl (j32 zW zB _ zB1 zF zC1 z1 (by unfold rrC; rw [if_neg zh15]))
      | exact r_sub [0, 1, 2, 3, 4] rfl (j32 zW zB _ zB1 zF zC1 z1 (by unfold rrC; rw [if_pos zh15, if_pos (b2n.mp zh26)]; exact zh15))
      | exact r_sub [0, 1, 2, 3, 4] rfl (j32 zW zB _ zB1 zF zC1 z1 (by unfold rrC; rw [if_pos zh15, if_neg (show ¬ inB y 0 728 = true by rw [b2z.mp zh26]; decide)]))
  · refine r_iload_n 3 rfl dX11_run_18 ?_
    refine r_iconst (v := 0) rfl dX11_run_19 ?_
    refine r_sipush (v := 728) rfl dX11_run_20 ?_
    refine r_Sf [.int _, .int _, .int _] dX11_run_23 lk_X11_138 mb_X11_in sc_X11_in rfl (c_X11_in) rfl (Nat.le_of_ble_eq_true rfl) (rfl) ?_
    refine r_ifne (tgt := 32) dX11_run_26 (by decide) (fun zh26 => ?_) (fun zh26 => ?_)
    · first
        | exact r_sub [0, 1, 2, 3, 4] rfl (j32 zW zB _ zB1 zF zC1 z1 (by unfold rrC; rw [if_neg zh15]))
        | exact r_sub [0, 1, 2, 3, 4] rfl (j32 zW zB _ zB1 zF zC1 z1 (by unfold rrC; rw [if_pos zh15, if_pos (b2n.mp zh26)]; exact zh15))
        | exact r_sub [0, 1, 2, 3, 4] rfl (j32 zW zB _ zB1 zF zC1 z1 (by unfold rrC; rw [if_pos zh15, if_neg (show ¬ inB y 0 728 = true by rw [b2z.mp zh26]; decide)]))
    · refine r_iconst (v := 2) rfl dX11_run_29 ?_
      refine r_istore (ls2 := [(4, .int 2), (0, .ref 124), (1, .int x), (2, .int y), (3, .int 0)]) dX11_run_30 (by decide) rfl ?_
      first
        | exact r_sub [0, 1, 2, 3, 4] rfl (j32 zW zB _ zB1 zF zC1 z1 (by unfold rrC; rw [if_neg zh15]))
        | exact r_sub [0, 1, 2, 3, 4] rfl (j32 zW zB _ zB1 zF zC1 z1 (by unfold rrC; rw [if_pos zh15, if_pos (b2n.mp zh26)]; exact zh15))
        | exact r_sub [0, 1, 2, 3, 4] rfl (j32 zW zB _ zB1 zF zC1 z1 (by unfold rrC; rw [if_pos zh15, if_neg (show ¬ inB y 0 728 = true by rw [b2z.mp zh26]; decide)]))
set_option maxRecDepth 100000 in
theorem c_X11_runBurst_1 (hM : x_Lay MR) (hmu : muOK MI) {A S b g : Nat} (hm : rMc MI A S b) (hg : gOK MI g) {x y z : Int32} (hz : ¬ z = 0) : Cf X yX11_runBurst cX11_runBurst 5 (some .int) 13 [.ref 124, .int x, .int y, .int z] n SH MI ML MR (some (.int (rbG (th MI) x y g).1)) (rfM (th MI) (rbG (th MI) x y g).2) ML MR := by
  obtain ⟨V, hV⟩ : ∃ V, V = th MI := ⟨_, rfl⟩
  have hmV : rMc V A S b := by rw [hV]; exact rMc_th hm
  have hmuV : muOK V := by rw [hV]; exact hmu
  have hgV : gOK V g := by rw [hV]; exact hg
  rw [← hV]
  obtain ⟨hA, hS, hAr, hP, -, -⟩ := hmV
  refine Ct_of (by decide) (Nat.le_of_ble_eq_true rfl) (fun G hG => ?_)
  have j33 : ∀ t, t = (rbG V x y g).2 → RW X G RX11 cX11_runBurst 5 (x_rm 13 0 0) n SH V ML MR 0 0 33 [(4, .int t), (0, .ref 124), (1, .int x), (2, .int y), (3, .int z)] [] := by
    intro t ht
    by_cases h0 : rIF V x = true ∧ rIA V y = true
    · by_cases h1 : rTr V x = 0
      · obtain ⟨i, hi, rfl⟩ := rIA_ex (by omega) hAr h0.2
        obtain ⟨m, hm9, hme⟩ := bcR_in V i
        have e : rbG V x (nI i) g = (nI (rgS V x m g), 0) := by unfold rbG; rw [if_pos h0, if_pos h1, nI_clamp (by omega), hme, nI_clamp (by omega)]
        have ht0 : t = 0 := by rw [ht, e]
        subst ht0
        refine r_iload 0 rfl dX11_runBurst_33 ?_
        refine r_ifle (tgt := 45) dX11_runBurst_35 (by decide) (fun zh35 => ?_) (fun zh35 => ?_)
        rotate_left
        · exact absurd zh35 (by decide)
        refine r_aload_n 1 rfl dX11_runBurst_45 ?_
        refine r_aload_n 1 rfl dX11_runBurst_46 ?_
        refine r_iload_n 2 rfl dX11_runBurst_47 ?_
        refine r_aload_n 1 rfl dX11_runBurst_48 ?_
        refine r_iload_n 3 rfl dX11_runBurst_49 ?_
        refine r_Vf [.int _] dX11_runBurst_50 lk_X11_361 mb_X11_burstCube in_X11_burstCube se_X11_burstCube rfl (c_X11_burstCube hM hA hS hP hi) rfl rfl rfl (Nat.le_of_ble_eq_true rfl) (rfl) ?_
        rw [hme]
        refine r_iload_n 4 rfl dX11_runBurst_53 ?_
        refine r_Vf [.int _, .int _, .int _] dX11_runBurst_54 lk_X11_464 mb_X11_runs in_X11_runs se_X11_runs rfl (c_X11_runs_1 hM hmuV hgV hm9 hz) rfl rfl rfl (Nat.le_of_ble_eq_true rfl) (rfl) ?_
        refine r_Vf [.int _] dX11_runBurst_57 lk_X11_267 mb_X11_good in_X11_good se_X11_good rfl (c_X11_good) rfl rfl rfl (Nat.le_of_ble_eq_true rfl) (rfl) ?_
        exact r_iret hG dX11_runBurst_60 (by rw [e]; exact ⟨rfl, rfl, rfl, rfl⟩)
      · have hp : 0 < rTr V x := rTr_0.resolve_left h1
        have e : rbG V x y g = (-1, rTr V x) := by unfold rbG; rw [if_pos h0, if_neg h1]
        have ht0 : t = rTr V x := by rw [ht, e]
        subst ht0
        refine r_iload 0 rfl dX11_runBurst_33 ?_
        refine r_ifle (tgt := 45) dX11_runBurst_35 (by decide) (fun zh35 => ?_) (fun zh35 => ?_)
        · exact absurd zh35 (Int32.not_le.mpr hp)
        refine r_aload_n 1 rfl dX11_runBurst_38 ?_
        refine r_iload 0 rfl dX11_runBurst_39 ?_
        refine r_Vf [.int _] dX11_runBurst_41 lk_X11_251 mb_X11_refused in_X11_refused se_X11_refused rfl (c_X11_refused) rfl rfl rfl (Nat.le_of_ble_eq_true rfl) (rfl) ?_
        exact r_iret hG dX11_runBurst_44 (by rw [e]; exact ⟨rfl, rfl, rfl, rfl⟩)
    · have e : rbG V x y g = (-1, 1) := by unfold rbG; rw [if_neg h0]
      have ht0 : t = 1 := by rw [ht, e]
      subst ht0
      refine r_iload 0 rfl dX11_runBurst_33 ?_
      refine r_ifle (tgt := 45) dX11_runBurst_35 (by decide) (fun zh35 => ?_) (fun zh35 => ?_)
      · exact absurd zh35 (by decide)
      refine r_aload_n 1 rfl dX11_runBurst_38 ?_
      refine r_iload 0 rfl dX11_runBurst_39 ?_
      refine r_Vf [.int _] dX11_runBurst_41 lk_X11_251 mb_X11_refused in_X11_refused se_X11_refused rfl (c_X11_refused) rfl rfl rfl (Nat.le_of_ble_eq_true rfl) (rfl) ?_
      exact r_iret hG dX11_runBurst_44 (by rw [e]; exact ⟨rfl, rfl, rfl, rfl⟩)
  have hk : ∀ h0 : rIF V x = true ∧ rIA V y = true, rTr V x = (rbG V x y g).2 := fun h0 => by
    unfold rbG
    rw [if_pos h0]
    by_cases h1 : rTr V x = 0
    · rw [if_pos h1]; exact h1
    · rw [if_neg h1]
  refine r_aload_n 0 rfl dX11_runBurst_0 ?_
  refine r_iconst (v := 0) rfl dX11_runBurst_1 ?_
  refine r_puti dX11_runBurst_2 fl_X11_3 rfl rfl rfl ?_
  refine r_mem hV.symm rfl rfl ?_
  refine r_aload_n 0 rfl dX11_runBurst_5 ?_
  refine r_iload_n 1 rfl dX11_runBurst_6 ?_
  refine r_Vf [.int _] dX11_runBurst_7 lk_X11_341 mb_X11_isFunction in_X11_isFunction se_X11_isFunction rfl (c_X11_isFunction) rfl rfl rfl (Nat.le_of_ble_eq_true rfl) (rfl) ?_
  refine r_ifeq (tgt := 30) dX11_runBurst_10 (by decide) (fun zh10 => ?_) (fun zh10 => ?_)
  · refine r_iconst (v := 1) rfl dX11_runBurst_30 ?_
    refine r_istore (ls2 := [(4, .int 1), (0, .ref 124), (1, .int x), (2, .int y), (3, .int z)]) dX11_runBurst_31 (by decide) rfl ?_
    first
      | exact r_sub [0, 1, 2, 3, 4] rfl (j33 _ (hk ⟨b2n.mp zh10, b2n.mp zh18⟩))
      | (have y1 : zv31 = (rbG V x y g).2 := ze31.trans (hk ⟨b2n.mp zh10, b2n.mp zh18⟩)
         exact r_sub [0, 1, 2, 3, 4] rfl (j33 _ y1))
      | (have y1 : ¬ (rIF V x = true ∧ rIA V y = true) := fun q => absurd q.1 (by rw [b2z.mp zh10]; decide)
         exact r_sub [0, 1, 2, 3, 4] rfl (j33 _ (by unfold rbG; rw [if_neg y1])))
      | (have y1 : ¬ (rIF V x = true ∧ rIA V y = true) := fun q => absurd q.2 (by rw [b2z.mp zh18]; decide)
         exact r_sub [0, 1, 2, 3, 4] rfl (j33 _ (by unfold rbG; rw [if_neg y1])))
  · refine r_aload_n 0 rfl dX11_runBurst_13 ?_
    refine r_iload_n 2 rfl dX11_runBurst_14 ?_
    refine r_Vf [.int _] dX11_runBurst_15 lk_X11_338 mb_X11_isArc in_X11_isArc se_X11_isArc rfl (c_X11_isArc hM) rfl rfl rfl (Nat.le_of_ble_eq_true rfl) (rfl) ?_
    refine r_ifeq (tgt := 30) dX11_runBurst_18 (by decide) (fun zh18 => ?_) (fun zh18 => ?_)
    · refine r_iconst (v := 1) rfl dX11_runBurst_30 ?_
      refine r_istore (ls2 := [(4, .int 1), (0, .ref 124), (1, .int x), (2, .int y), (3, .int z)]) dX11_runBurst_31 (by decide) rfl ?_
      first
        | exact r_sub [0, 1, 2, 3, 4] rfl (j33 _ (hk ⟨b2n.mp zh10, b2n.mp zh18⟩))
        | (have y1 : zv31 = (rbG V x y g).2 := ze31.trans (hk ⟨b2n.mp zh10, b2n.mp zh18⟩)
           exact r_sub [0, 1, 2, 3, 4] rfl (j33 _ y1))
        | (have y1 : ¬ (rIF V x = true ∧ rIA V y = true) := fun q => absurd q.1 (by rw [b2z.mp zh10]; decide)
           exact r_sub [0, 1, 2, 3, 4] rfl (j33 _ (by unfold rbG; rw [if_neg y1])))
        | (have y1 : ¬ (rIF V x = true ∧ rIA V y = true) := fun q => absurd q.2 (by rw [b2z.mp zh18]; decide)
           exact r_sub [0, 1, 2, 3, 4] rfl (j33 _ (by unfold rbG; rw [if_neg y1])))
    · refine r_aload_n 0 rfl dX11_runBurst_21 ?_
      refine r_iload_n 1 rfl dX11_runBurst_22 ?_
      refine r_iload_n 3 rfl dX11_runBurst_23 ?_
      refine r_Vf [.int _, .int _] dX11_runBurst_24 lk_X11_460 mb_X11_refusesRun in_X11_refusesRun se_X11_refusesRun rfl (c_X11_refusesRun_1 hz) rfl rfl rfl (Nat.le_of_ble_eq_true rfl) (rfl) ?_
      refine r_goto (tgt := 31) dX11_runBurst_27 (by decide) ?_
      refine r_nmi (fun zv31 ze31 => ?_)
      refine r_istore (ls2 := [(4, .int zv31), (0, .ref 124), (1, .int x), (2, .int y), (3, .int z)]) dX11_runBurst_31 (by decide) rfl ?_
      first
        | exact r_sub [0, 1, 2, 3, 4] rfl (j33 _ (hk ⟨b2n.mp zh10, b2n.mp zh18⟩))
        | (have y1 : zv31 = (rbG V x y g).2 := ze31.trans (hk ⟨b2n.mp zh10, b2n.mp zh18⟩)
           exact r_sub [0, 1, 2, 3, 4] rfl (j33 _ y1))
        | (have y1 : ¬ (rIF V x = true ∧ rIA V y = true) := fun q => absurd q.1 (by rw [b2z.mp zh10]; decide)
           exact r_sub [0, 1, 2, 3, 4] rfl (j33 _ (by unfold rbG; rw [if_neg y1])))
        | (have y1 : ¬ (rIF V x = true ∧ rIA V y = true) := fun q => absurd q.2 (by rw [b2z.mp zh18]; decide)
           exact r_sub [0, 1, 2, 3, 4] rfl (j33 _ (by unfold rbG; rw [if_neg y1])))
end rruns2

/-! Study: 43; inputs 44, outputs 45, valued 46, gone 47, demands 48 (49, 50), burstCubes 51, turnCubes 52, fromPoints 53, valuesBefore 54, valuesThen 55, foundCubes 56 -/
abbrev Dp : Type := (Nat → Int64) × (Nat → Int64)
abbrev layD (ML : Nat → Nat → Int64) (z o : Nat) (q : Dp) : Nat → Nat → Int64 := sr (sr ML z q.1) o q.2
abbrev demW (q : Dp) (v : Int32) (p : Int64) : Dp := (wantZ q.1 v p 5, wantO q.2 v p 5)
theorem layD_z {ML : Nat → Nat → Int64} {z o : Nat} (zo : z ≠ o) (q : Dp) : layD ML z o q z = q.1 := by rw [layD, sr_ne _ _ zo, sr_eq]
theorem layD_o {ML : Nat → Nat → Int64} {z o : Nat} (q : Dp) : layD ML z o q o = q.2 := sr_eq _ _ _
theorem layD_b {ML : Nat → Nat → Int64} {z o b : Nat} (q : Dp) (h1 : b ≠ z) (h2 : b ≠ o) : layD ML z o q b = ML b := by rw [layD, sr_ne _ _ h2, sr_ne _ _ h1]
theorem layD2 {ML : Nat → Nat → Int64} {z o : Nat} (q q' : Dp) : layD (layD ML z o q) z o q' = layD ML z o q' := by
  funext b i
  simp only [layD, sr]
  grind
theorem layD_id {ML : Nat → Nat → Int64} {z o : Nat} : layD ML z o (ML z, ML o) = ML := by
  funext b i
  simp only [layD, sr]
  grind
theorem layD_step {ML : Nat → Nat → Int64} {z o : Nat} (zo : z ≠ o) (q : Dp) (v : Int32) (p : Int64) : layD (layD ML z o q) z o (demW (layD ML z o q z, layD ML z o q o) v p) = layD ML z o (demW q v p) := by rw [layD_z zo, layD_o, layD2]
def pointV (I C : Nat → Int32) (s : Int32) : Int32 := pickV I 6 s ||| (pickV C 6 s <<< ((4 : Int32) &&& 31))
def valV (O C : Nat → Int32) (s : Int32) : Int32 := pickV O 6 s ||| (pickV C 6 s <<< ((3 : Int32) &&& 31))
def ptL (x : Int32) : Int64 := (1 : Int64) <<< (x.toInt64 &&& 63)
def demS (I O C : Nat → Int32) (s : Int32) (q : Dp) : Dp := demW q (valV O C s) (ptL (pointV I C s))
def demA (I O C : Nat → Int32) (f t b : Int32) (q : Dp) : Dp := demW (demW q (valV O C f) (ptsL (pointV I C f) b 6 &&& (ptL (pointV I C f ^^^ b) ^^^ -1))) (valV O C t) (ptsL (pointV I C f ^^^ b) ((pointV I C f ^^^ b) ^^^ pointV I C t) 6)
section study
variable {X : xG} {n : Nat} {MI : Nat → Nat → Int32} {ML : Nat → Nat → Int64} {MR : Nat → Nat → Option Nat}
set_option maxRecDepth 100000 in
theorem c_X8_hasValues (hM : x_Lay MR) {x : Int32} : Cf X yX8_hasValues cX8_hasValues 2 (some .boolean) 1 [.ref 43, .int x] n SH MI ML MR (some (.int (if inR x 6 = true ∧ ¬ MI 46 x.toNatClampNeg = 0 then 1 else 0))) MI ML MR := by
  refine Ct_of (by decide) (Nat.le_of_ble_eq_true rfl) (fun G hG => ?_)
  refine r_iload_n 1 rfl dX8_hasValues_0 ?_
  refine r_iflt (tgt := 23) dX8_hasValues_1 (by decide) (fun zh1 => ?_) (fun zh1 => ?_)
  · refine r_iconst (v := 0) rfl dX8_hasValues_23 ?_
    exact r_zret hG dX8_hasValues_24 (rfl) (⟨by simp_all [inR], rfl, rfl, rfl⟩)
  · refine r_iload_n 1 rfl dX8_hasValues_4 ?_
    refine r_bipush (v := 6) rfl dX8_hasValues_5 ?_
    refine r_icmpge (tgt := 23) dX8_hasValues_7 (by decide) (fun zh7 => ?_) (fun zh7 => ?_)
    · refine r_iconst (v := 0) rfl dX8_hasValues_23 ?_
      exact r_zret hG dX8_hasValues_24 (rfl) (⟨by simp_all [inR], rfl, rfl, rfl⟩)
    · refine r_aload_n 0 rfl dX8_hasValues_10 ?_
      refine r_getr dX8_hasValues_11 fl_X8_18 rfl (hM _ _ _ rfl) ?_
      refine r_iload_n 1 rfl dX8_hasValues_14 ?_
      refine r_zald dX8_hasValues_15 rfl (vpin_of (N := 6) (by decide) zh1 zh7) ?_
      refine r_ifeq (tgt := 23) dX8_hasValues_16 (by decide) (fun zh16 => ?_) (fun zh16 => ?_)
      · refine r_iconst (v := 0) rfl dX8_hasValues_23 ?_
        exact r_zret hG dX8_hasValues_24 (rfl) (⟨by simp_all [inR], rfl, rfl, rfl⟩)
      · refine r_iconst (v := 1) rfl dX8_hasValues_19 ?_
        refine r_goto (tgt := 24) dX8_hasValues_20 (by decide) ?_
        exact r_zret hG dX8_hasValues_24 (rfl) (⟨by simp_all [inR], rfl, rfl, rfl⟩)
set_option maxRecDepth 100000 in
theorem c_X8_wasGoneAlong (hM : x_Lay MR) {x : Int32} : Cf X yX8_wasGoneAlong cX8_wasGoneAlong 2 (some .boolean) 1 [.ref 43, .int x] n SH MI ML MR (some (.int (if inR x 8 = true ∧ ¬ MI 47 x.toNatClampNeg = 0 then 1 else 0))) MI ML MR := by
  refine Ct_of (by decide) (Nat.le_of_ble_eq_true rfl) (fun G hG => ?_)
  refine r_iload_n 1 rfl dX8_wasGoneAlong_0 ?_
  refine r_iflt (tgt := 23) dX8_wasGoneAlong_1 (by decide) (fun zh1 => ?_) (fun zh1 => ?_)
  · refine r_iconst (v := 0) rfl dX8_wasGoneAlong_23 ?_
    exact r_zret hG dX8_wasGoneAlong_24 (rfl) (⟨by simp_all [inR], rfl, rfl, rfl⟩)
  · refine r_iload_n 1 rfl dX8_wasGoneAlong_4 ?_
    refine r_bipush (v := 8) rfl dX8_wasGoneAlong_5 ?_
    refine r_icmpge (tgt := 23) dX8_wasGoneAlong_7 (by decide) (fun zh7 => ?_) (fun zh7 => ?_)
    · refine r_iconst (v := 0) rfl dX8_wasGoneAlong_23 ?_
      exact r_zret hG dX8_wasGoneAlong_24 (rfl) (⟨by simp_all [inR], rfl, rfl, rfl⟩)
    · refine r_aload_n 0 rfl dX8_wasGoneAlong_10 ?_
      refine r_getr dX8_wasGoneAlong_11 fl_X8_22 rfl (hM _ _ _ rfl) ?_
      refine r_iload_n 1 rfl dX8_wasGoneAlong_14 ?_
      refine r_zald dX8_wasGoneAlong_15 rfl (vpin_of (N := 8) (by decide) zh1 zh7) ?_
      refine r_ifeq (tgt := 23) dX8_wasGoneAlong_16 (by decide) (fun zh16 => ?_) (fun zh16 => ?_)
      · refine r_iconst (v := 0) rfl dX8_wasGoneAlong_23 ?_
        exact r_zret hG dX8_wasGoneAlong_24 (rfl) (⟨by simp_all [inR], rfl, rfl, rfl⟩)
      · refine r_iconst (v := 1) rfl dX8_wasGoneAlong_19 ?_
        refine r_goto (tgt := 24) dX8_wasGoneAlong_20 (by decide) ?_
        exact r_zret hG dX8_wasGoneAlong_24 (rfl) (⟨by simp_all [inR], rfl, rfl, rfl⟩)
set_option maxRecDepth 100000 in
theorem c_X8_pointIn (hM : x_Lay MR) {ca : Nat} (hc : SH[ca]? = some (13, 6)) {x : Int32} : Cf X yX8_pointIn cX8_pointIn 3 (some .int) 2 [.ref 43, .ref ca, .int x] n SH MI ML MR (some (.int (pointV (MI 44) (MI ca) x))) MI ML MR := by
  refine Ct_of (by decide) (Nat.le_of_ble_eq_true rfl) (fun G hG => ?_)
  refine r_aload_n 0 rfl dX8_pointIn_0 ?_
  refine r_getr dX8_pointIn_1 fl_X8_9 rfl (hM _ _ _ rfl) ?_
  refine r_iload_n 2 rfl dX8_pointIn_4 ?_
  refine r_Sf [.ref _, .int _] dX8_pointIn_5 lk_X8_113 mb_X10_pick sc_X10_pick rfl (c_X10_pick (N := 6) rfl (by decide)) rfl (Nat.le_of_ble_eq_true rfl) (rfl) ?_
  refine r_aload_n 1 rfl dX8_pointIn_8 ?_
  refine r_iload_n 2 rfl dX8_pointIn_9 ?_
  refine r_Sf [.ref _, .int _] dX8_pointIn_10 lk_X8_113 mb_X10_pick sc_X10_pick rfl (c_X10_pick (N := 6) hc (by decide)) rfl (Nat.le_of_ble_eq_true rfl) (rfl) ?_
  refine r_iconst (v := 4) rfl dX8_pointIn_13 ?_
  refine r_ishl dX8_pointIn_14 ?_
  refine r_ior dX8_pointIn_15 ?_
  exact r_iret hG dX8_pointIn_16 (⟨rfl, rfl, rfl, rfl⟩)
set_option maxRecDepth 100000 in
theorem c_X8_valuesIn (hM : x_Lay MR) {ca : Nat} (hc : SH[ca]? = some (13, 6)) {x : Int32} : Cf X yX8_valuesIn cX8_valuesIn 3 (some .int) 2 [.ref 43, .ref ca, .int x] n SH MI ML MR (some (.int (valV (MI 45) (MI ca) x))) MI ML MR := by
  refine Ct_of (by decide) (Nat.le_of_ble_eq_true rfl) (fun G hG => ?_)
  refine r_aload_n 0 rfl dX8_valuesIn_0 ?_
  refine r_getr dX8_valuesIn_1 fl_X8_15 rfl (hM _ _ _ rfl) ?_
  refine r_iload_n 2 rfl dX8_valuesIn_4 ?_
  refine r_Sf [.ref _, .int _] dX8_valuesIn_5 lk_X8_113 mb_X10_pick sc_X10_pick rfl (c_X10_pick (N := 6) rfl (by decide)) rfl (Nat.le_of_ble_eq_true rfl) (rfl) ?_
  refine r_aload_n 1 rfl dX8_valuesIn_8 ?_
  refine r_iload_n 2 rfl dX8_valuesIn_9 ?_
  refine r_Sf [.ref _, .int _] dX8_valuesIn_10 lk_X8_113 mb_X10_pick sc_X10_pick rfl (c_X10_pick (N := 6) hc (by decide)) rfl (Nat.le_of_ble_eq_true rfl) (rfl) ?_
  refine r_iconst (v := 3) rfl dX8_valuesIn_13 ?_
  refine r_ishl dX8_valuesIn_14 ?_
  refine r_ior dX8_valuesIn_15 ?_
  exact r_iret hG dX8_valuesIn_16 (⟨rfl, rfl, rfl, rfl⟩)
set_option maxRecDepth 100000 in
theorem c_X8_demandByState (hM : x_Lay MR) {a z o : Nat} (hD : x_De MR a z o) {ca : Nat} (hc : SH[ca]? = some (13, 6)) {x : Int32} : Cf X yX8_demandByState cX8_demandByState 4 none 3 [.ref 43, .ref a, .ref ca, .int x] n SH MI ML MR none MI (layD ML z o (demS (MI 44) (MI 45) (MI ca) x (ML z, ML o))) MR := by
  refine Ct_of (by decide) (Nat.le_of_ble_eq_true rfl) (fun G hG => ?_)
  refine r_aload_n 1 rfl dX8_demandByState_0 ?_
  refine r_aload_n 0 rfl dX8_demandByState_1 ?_
  refine r_aload_n 2 rfl dX8_demandByState_2 ?_
  refine r_iload_n 3 rfl dX8_demandByState_3 ?_
  refine r_Vf [.ref _, .int _] dX8_demandByState_4 lk_X8_153 mb_X8_valuesIn in_X8_valuesIn se_X8_valuesIn rfl (c_X8_valuesIn hM hc) rfl rfl rfl (Nat.le_of_ble_eq_true rfl) (rfl) ?_
  refine r_lconst (v := 1) rfl dX8_demandByState_7 ?_
  refine r_aload_n 0 rfl dX8_demandByState_8 ?_
  refine r_aload_n 2 rfl dX8_demandByState_9 ?_
  refine r_iload_n 3 rfl dX8_demandByState_10 ?_
  refine r_Vf [.ref _, .int _] dX8_demandByState_11 lk_X8_131 mb_X8_pointIn in_X8_pointIn se_X8_pointIn rfl (c_X8_pointIn hM hc) rfl rfl rfl (Nat.le_of_ble_eq_true rfl) (rfl) ?_
  refine r_lshl dX8_demandByState_14 ?_
  refine r_Vn [.int _, .long _] dX8_demandByState_15 lk_X8_156 mb_X3_want in_X3_want se_X3_want rfl (c_X3_want hD) hD.1 rfl rfl (Nat.le_of_ble_eq_true rfl) (rfl) ?_
  exact r_vret hG dX8_demandByState_18 (⟨rfl, rfl, rfl, rfl⟩)
set_option maxRecDepth 100000 in
theorem c_X8_demandByArc (hM : x_Lay MR) (hSt : x_St X) {a z o : Nat} (hD : x_De MR a z o) {ca : Nat} (hc : SH[ca]? = some (13, 6)) {x : Int32} : Cf X yX8_demandByArc cX8_demandByArc 10 none 3 [.ref 43, .ref a, .ref ca, .int x] n SH MI ML MR none MI (layD ML z o (demA (MI 44) (MI 45) (MI ca) (partV MI 1 x 0) (partV MI 1 x 1) (burstV MI 1 x) (ML z, ML o))) MR := by
  have zo := hD.2.2.2.2.2
  refine Ct_of (by decide) (Nat.le_of_ble_eq_true rfl) (fun G hG => ?_)
  refine r_aload_n 0 rfl dX8_demandByArc_0 ?_
  refine r_getr dX8_demandByArc_1 fl_X8_54 rfl (hM _ _ _ rfl) ?_
  refine r_iload_n 3 rfl dX8_demandByArc_4 ?_
  refine r_iconst (v := 0) rfl dX8_demandByArc_5 ?_
  refine r_Vf [.int _, .int _] dX8_demandByArc_6 lk_X8_105 mb_X5_part in_X5_part se_X5_part rfl (c_X5_part_1 hM) rfl rfl rfl (Nat.le_of_ble_eq_true rfl) (rfl) ?_
  refine r_nmi (fun zv9 ze9 => ?_)
  refine r_istore (ls2 := [(4, .int zv9), (0, .ref 43), (1, .ref a), (2, .ref ca), (3, .int x)]) dX8_demandByArc_9 (by decide) rfl ?_
  refine r_aload_n 1 rfl dX8_demandByArc_11 ?_
  refine r_getr dX8_demandByArc_12 fl_X8_54 rfl (hM _ _ _ rfl) ?_
  refine r_iload_n 4 rfl dX8_demandByArc_15 ?_
  refine r_iconst (v := 1) rfl dX8_demandByArc_16 ?_
  refine r_Vf [.int _, .int _] dX8_demandByArc_17 lk_X8_105 mb_X5_part in_X5_part se_X5_part rfl (c_X5_part_1 hM) rfl rfl rfl (Nat.le_of_ble_eq_true rfl) (rfl) ?_
  refine r_nmi (fun zv20 ze20 => ?_)
  refine r_istore (ls2 := [(5, .int zv20), (4, .int zv9), (0, .ref 43), (1, .ref a), (2, .ref ca), (3, .int x)]) dX8_demandByArc_20 (by decide) rfl ?_
  refine r_aload_n 2 rfl dX8_demandByArc_22 ?_
  refine r_aload_n 4 rfl dX8_demandByArc_23 ?_
  refine r_iload 1 rfl dX8_demandByArc_24 ?_
  refine r_Vf [.ref _, .int _] dX8_demandByArc_26 lk_X8_131 mb_X8_pointIn in_X8_pointIn se_X8_pointIn rfl (c_X8_pointIn hM hc) rfl rfl rfl (Nat.le_of_ble_eq_true rfl) (rfl) ?_
  refine r_nmi (fun zv29 ze29 => ?_)
  refine r_istore (ls2 := [(6, .int zv29), (5, .int zv20), (4, .int zv9), (0, .ref 43), (1, .ref a), (2, .ref ca), (3, .int x)]) dX8_demandByArc_29 (by decide) rfl ?_
  refine r_iload 0 rfl dX8_demandByArc_31 ?_
  refine r_aload_n 3 rfl dX8_demandByArc_33 ?_
  refine r_getr dX8_demandByArc_34 fl_X8_54 rfl (hM _ _ _ rfl) ?_
  refine r_iload_n 6 rfl dX8_demandByArc_37 ?_
  refine r_Vf [.int _] dX8_demandByArc_38 lk_X8_124 mb_X5_burstInputs in_X5_burstInputs se_X5_burstInputs rfl (c_X5_burstInputs_1 hM) rfl rfl rfl (Nat.le_of_ble_eq_true rfl) (rfl) ?_
  refine r_ixor dX8_demandByArc_41 ?_
  refine r_nmi (fun zv42 ze42 => ?_)
  refine r_istore (ls2 := [(7, .int zv42), (6, .int zv29), (5, .int zv20), (4, .int zv9), (0, .ref 43), (1, .ref a), (2, .ref ca), (3, .int x)]) dX8_demandByArc_42 (by decide) rfl ?_
  refine r_iload 1 rfl dX8_demandByArc_44 ?_
  refine r_aload_n 4 rfl dX8_demandByArc_46 ?_
  refine r_getr dX8_demandByArc_47 fl_X8_54 rfl (hM _ _ _ rfl) ?_
  refine r_iload_n 7 rfl dX8_demandByArc_50 ?_
  refine r_Vf [.int _] dX8_demandByArc_51 lk_X8_124 mb_X5_burstInputs in_X5_burstInputs se_X5_burstInputs rfl (c_X5_burstInputs_1 hM) rfl rfl rfl (Nat.le_of_ble_eq_true rfl) (rfl) ?_
  refine r_Sf [.int _, .int _] dX8_demandByArc_54 lk_X8_160 mb_X2_pointsLike sc_X2_pointsLike rfl (c_X2_pointsLike hSt) rfl (Nat.le_of_ble_eq_true rfl) (rfl) ?_
  refine r_nml (fun zv57 ze57 => ?_)
  refine r_lstore (ls2 := [(8, .long zv57), (7, .int zv42), (6, .int zv29), (5, .int zv20), (4, .int zv9), (0, .ref 43), (1, .ref a), (2, .ref ca), (3, .int x)]) dX8_demandByArc_57 (by decide) rfl ?_
  refine r_aload_n 6 rfl dX8_demandByArc_59 ?_
  refine r_aload_n 5 rfl dX8_demandByArc_60 ?_
  refine r_aload_n 7 rfl dX8_demandByArc_61 ?_
  refine r_iload 4 rfl dX8_demandByArc_62 ?_
  refine r_Vf [.ref _, .int _] dX8_demandByArc_64 lk_X8_153 mb_X8_valuesIn in_X8_valuesIn se_X8_valuesIn rfl (c_X8_valuesIn hM hc) rfl rfl rfl (Nat.le_of_ble_eq_true rfl) (rfl) ?_
  refine r_lload 0 rfl dX8_demandByArc_67 ?_
  refine r_lconst (v := 1) rfl dX8_demandByArc_69 ?_
  refine r_iload 1 rfl dX8_demandByArc_70 ?_
  refine r_lshl dX8_demandByArc_72 ?_
  refine r_ldc2 kl_X8_164 dX8_demandByArc_73 ?_
  refine r_lxor dX8_demandByArc_76 ?_
  refine r_land dX8_demandByArc_77 ?_
  refine r_Vn [.int _, .long _] dX8_demandByArc_78 lk_X8_156 mb_X3_want in_X3_want se_X3_want rfl (c_X3_want hD) hD.1 rfl rfl (Nat.le_of_ble_eq_true rfl) (rfl) ?_
  refine r_aload_n 6 rfl dX8_demandByArc_81 ?_
  refine r_aload_n 5 rfl dX8_demandByArc_82 ?_
  refine r_aload_n 7 rfl dX8_demandByArc_83 ?_
  refine r_iload 3 rfl dX8_demandByArc_84 ?_
  refine r_Vf [.ref _, .int _] dX8_demandByArc_86 lk_X8_153 mb_X8_valuesIn in_X8_valuesIn se_X8_valuesIn rfl (c_X8_valuesIn hM hc) rfl rfl rfl (Nat.le_of_ble_eq_true rfl) (rfl) ?_
  refine r_iload 1 rfl dX8_demandByArc_89 ?_
  refine r_iload 1 rfl dX8_demandByArc_91 ?_
  refine r_aload_n 5 rfl dX8_demandByArc_93 ?_
  refine r_aload_n 7 rfl dX8_demandByArc_94 ?_
  refine r_iload 3 rfl dX8_demandByArc_95 ?_
  refine r_Vf [.ref _, .int _] dX8_demandByArc_97 lk_X8_131 mb_X8_pointIn in_X8_pointIn se_X8_pointIn rfl (c_X8_pointIn hM hc) rfl rfl rfl (Nat.le_of_ble_eq_true rfl) (rfl) ?_
  refine r_ixor dX8_demandByArc_100 ?_
  refine r_Sf [.int _, .int _] dX8_demandByArc_101 lk_X8_160 mb_X2_pointsLike sc_X2_pointsLike rfl (c_X2_pointsLike hSt) rfl (Nat.le_of_ble_eq_true rfl) (rfl) ?_
  refine r_Vn [.int _, .long _] dX8_demandByArc_104 lk_X8_156 mb_X3_want in_X3_want se_X3_want rfl (c_X3_want hD) hD.1 rfl rfl (Nat.le_of_ble_eq_true rfl) (rfl) ?_
  exact r_vret hG dX8_demandByArc_107 (by subst ze9; subst ze20; subst ze29; subst ze42; subst ze57; exact ⟨rfl, rfl, layD_step zo (demW (ML z, ML o) _ _) _ _, rfl⟩)
def fallV (B T : Nat → Int32) (f x : Int32) : Bool := decide (¬ (pickV B 8 x &&& (pickV T 8 x ^^^ (-1 : Int32))) &&& ((1 : Int32) <<< (f &&& 31)) = 0)
set_option maxRecDepth 100000 in
theorem c_X8_fallsBy (hM : x_Lay MR) {f x : Int32} : Cf X yX8_fallsBy cX8_fallsBy 3 (some .boolean) 2 [.ref 43, .int f, .int x] n SH MI ML MR (some (.int (if fallV (MI 54) (MI 55) f x then 1 else 0))) MI ML MR := by
  refine Ct_of (by decide) (Nat.le_of_ble_eq_true rfl) (fun G hG => ?_)
  refine r_aload_n 0 rfl dX8_fallsBy_0 ?_
  refine r_getr dX8_fallsBy_1 fl_X8_45 rfl (hM _ _ _ rfl) ?_
  refine r_iload_n 2 rfl dX8_fallsBy_4 ?_
  refine r_Sf [.ref _, .int _] dX8_fallsBy_5 lk_X8_113 mb_X10_pick sc_X10_pick rfl (c_X10_pick (N := 8) rfl (by decide)) rfl (Nat.le_of_ble_eq_true rfl) (rfl) ?_
  refine r_aload_n 0 rfl dX8_fallsBy_8 ?_
  refine r_getr dX8_fallsBy_9 fl_X8_48 rfl (hM _ _ _ rfl) ?_
  refine r_iload_n 2 rfl dX8_fallsBy_12 ?_
  refine r_Sf [.ref _, .int _] dX8_fallsBy_13 lk_X8_113 mb_X10_pick sc_X10_pick rfl (c_X10_pick (N := 8) rfl (by decide)) rfl (Nat.le_of_ble_eq_true rfl) (rfl) ?_
  refine r_iconst (v := (-1)) rfl dX8_fallsBy_16 ?_
  refine r_ixor dX8_fallsBy_17 ?_
  refine r_iand dX8_fallsBy_18 ?_
  refine r_iconst (v := 1) rfl dX8_fallsBy_19 ?_
  refine r_iload_n 1 rfl dX8_fallsBy_20 ?_
  refine r_ishl dX8_fallsBy_21 ?_
  refine r_iand dX8_fallsBy_22 ?_
  refine r_ifeq (tgt := 30) dX8_fallsBy_23 (by decide) (fun zh23 => ?_) (fun zh23 => ?_)
  · refine r_iconst (v := 0) rfl dX8_fallsBy_30 ?_
    exact r_zret hG dX8_fallsBy_31 (rfl) (⟨by simp_all [fallV], rfl, rfl, rfl⟩)
  · refine r_iconst (v := 1) rfl dX8_fallsBy_26 ?_
    refine r_goto (tgt := 31) dX8_fallsBy_27 (by decide) ?_
    exact r_zret hG dX8_fallsBy_31 (rfl) (⟨by simp_all [fallV], rfl, rfl, rfl⟩)
set_option maxRecDepth 100000 in
theorem c_X8_fromPoint (hM : x_Lay MR) {x : Int32} : Cf X yX8_fromPoint cX8_fromPoint 2 (some .long) 2 [.ref 43, .int x] n SH MI ML MR (some (.long (ptL (pickV (MI 53) 8 x)))) MI ML MR := by
  refine Ct_of (by decide) (Nat.le_of_ble_eq_true rfl) (fun G hG => ?_)
  refine r_lconst (v := 1) rfl dX8_fromPoint_0 ?_
  refine r_aload_n 0 rfl dX8_fromPoint_1 ?_
  refine r_getr dX8_fromPoint_2 fl_X8_42 rfl (hM _ _ _ rfl) ?_
  refine r_iload_n 1 rfl dX8_fromPoint_5 ?_
  refine r_Sf [.ref _, .int _] dX8_fromPoint_6 lk_X8_113 mb_X10_pick sc_X10_pick rfl (c_X10_pick (N := 8) rfl (by decide)) rfl (Nat.le_of_ble_eq_true rfl) (rfl) ?_
  refine r_lshl dX8_fromPoint_9 ?_
  exact r_lret hG dX8_fromPoint_10 (⟨rfl, rfl, rfl, rfl⟩)
set_option maxRecDepth 100000 in
theorem c_X8_isOneAtBegin (hM : x_Lay MR) {f : Int32} : Cf X yX8_isOneAtBegin cX8_isOneAtBegin 2 (some .boolean) 3 [.ref 43, .int f] n SH MI ML MR (some (.int (if (valV (MI 45) (MI 2) (MI 1 3) >>> (f &&& 31)) &&& 1 = 0 then 0 else 1))) MI ML MR := by
  refine Ct_of (by decide) (Nat.le_of_ble_eq_true rfl) (fun G hG => ?_)
  refine r_aload_n 0 rfl dX8_isOneAtBegin_0 ?_
  refine r_aload_n 0 rfl dX8_isOneAtBegin_1 ?_
  refine r_getr dX8_isOneAtBegin_2 fl_X8_54 rfl (hM _ _ _ rfl) ?_
  refine r_getr dX8_isOneAtBegin_5 fl_X8_128 rfl (hM _ _ _ rfl) ?_
  refine r_aload_n 0 rfl dX8_isOneAtBegin_8 ?_
  refine r_getr dX8_isOneAtBegin_9 fl_X8_54 rfl (hM _ _ _ rfl) ?_
  refine r_geti dX8_isOneAtBegin_12 fl_X8_79 rfl ?_
  refine r_Vf [.ref _, .int _] dX8_isOneAtBegin_15 lk_X8_153 mb_X8_valuesIn in_X8_valuesIn se_X8_valuesIn rfl (c_X8_valuesIn hM rfl) rfl rfl rfl (Nat.le_of_ble_eq_true rfl) (rfl) ?_
  refine r_iload_n 1 rfl dX8_isOneAtBegin_18 ?_
  refine r_ishr dX8_isOneAtBegin_19 ?_
  refine r_iconst (v := 1) rfl dX8_isOneAtBegin_20 ?_
  refine r_iand dX8_isOneAtBegin_21 ?_
  refine r_ifeq (tgt := 29) dX8_isOneAtBegin_22 (by decide) (fun zh22 => ?_) (fun zh22 => ?_)
  · refine r_iconst (v := 0) rfl dX8_isOneAtBegin_29 ?_
    exact r_zret hG dX8_isOneAtBegin_30 (rfl) (⟨by simp_all, rfl, rfl, rfl⟩)
  · refine r_iconst (v := 1) rfl dX8_isOneAtBegin_25 ?_
    refine r_goto (tgt := 30) dX8_isOneAtBegin_26 (by decide) ?_
    exact r_zret hG dX8_isOneAtBegin_30 (rfl) (⟨by simp_all, rfl, rfl, rfl⟩)
set_option maxRecDepth 100000 in
theorem c_X8_beginCube (hM : x_Lay MR) : Cf X yX8_beginCube cX8_beginCube 1 (some .int) 3 [.ref 43] n SH MI ML MR (some (.int (numC (pointV (MI 44) (MI 2) (MI 1 3)) 0 6))) MI ML MR := by
  refine Ct_of (by decide) (Nat.le_of_ble_eq_true rfl) (fun G hG => ?_)
  refine r_aload_n 0 rfl dX8_beginCube_0 ?_
  refine r_aload_n 0 rfl dX8_beginCube_1 ?_
  refine r_getr dX8_beginCube_2 fl_X8_54 rfl (hM _ _ _ rfl) ?_
  refine r_getr dX8_beginCube_5 fl_X8_128 rfl (hM _ _ _ rfl) ?_
  refine r_aload_n 0 rfl dX8_beginCube_8 ?_
  refine r_getr dX8_beginCube_9 fl_X8_54 rfl (hM _ _ _ rfl) ?_
  refine r_geti dX8_beginCube_12 fl_X8_79 rfl ?_
  refine r_Vf [.ref _, .int _] dX8_beginCube_15 lk_X8_131 mb_X8_pointIn in_X8_pointIn se_X8_pointIn rfl (c_X8_pointIn hM rfl) rfl rfl rfl (Nat.le_of_ble_eq_true rfl) (rfl) ?_
  refine r_iconst (v := 0) rfl dX8_beginCube_18 ?_
  refine r_Sf [.int _, .int _] dX8_beginCube_19 lk_X8_148 mb_X2_numberOf sc_X2_numberOf rfl (c_X2_numberOf) rfl (Nat.le_of_ble_eq_true rfl) (rfl) ?_
  exact r_iret hG dX8_beginCube_22 (⟨rfl, rfl, rfl, rfl⟩)
def spoilM (MI : Nat → Nat → Int32) (w p : Int32) : Nat → Nat → Int32 := if MI 43 6 = 0 then u2 (u2 MI 43 6 w) 43 7 p else MI
set_option maxRecDepth 100000 in
theorem c_X8_spoil {w p : Int32} : Cf X yX8_spoil cX8_spoil 3 none 1 [.ref 43, .int w, .int p] n SH MI ML MR none (spoilM MI w p) ML MR := by
  refine Ct_of (by decide) (Nat.le_of_ble_eq_true rfl) (fun G hG => ?_)
  refine r_aload_n 0 rfl dX8_spoil_0 ?_
  refine r_geti dX8_spoil_1 fl_X8_58 rfl ?_
  refine r_ifne (tgt := 17) dX8_spoil_4 (by decide) (fun zh4 => ?_) (fun zh4 => ?_)
  · exact r_vret hG dX8_spoil_17 (⟨rfl, by simp_all [spoilM], rfl, rfl⟩)
  · refine r_aload_n 0 rfl dX8_spoil_7 ?_
    refine r_iload_n 1 rfl dX8_spoil_8 ?_
    refine r_puti dX8_spoil_9 fl_X8_58 rfl rfl rfl ?_
    refine r_aload_n 0 rfl dX8_spoil_12 ?_
    refine r_iload_n 2 rfl dX8_spoil_13 ?_
    refine r_puti dX8_spoil_14 fl_X8_32 rfl rfl rfl ?_
    exact r_vret hG dX8_spoil_17 (⟨rfl, by simp_all [spoilM], rfl, rfl⟩)
def setVM (MI : Nat → Nat → Int32) (s i o : Int32) : Nat → Nat → Int32 := if inR s 6 = true then u2 (u2 (u2 MI 44 s.toNatClampNeg i) 45 s.toNatClampNeg o) 46 s.toNatClampNeg 1 else MI
set_option maxRecDepth 100000 in
theorem c_X8_setValues (hM : x_Lay MR) {s i o : Int32} : Cf X yX8_setValues cX8_setValues 4 none 1 [.ref 43, .int s, .int i, .int o] n SH MI ML MR none (setVM MI s i o) ML MR := by
  refine Ct_of (by decide) (Nat.le_of_ble_eq_true rfl) (fun G hG => ?_)
  refine r_iload_n 1 rfl dX8_setValues_0 ?_
  refine r_iflt (tgt := 31) dX8_setValues_1 (by decide) (fun zh1 => ?_) (fun zh1 => ?_)
  · exact r_vret hG dX8_setValues_31 (⟨rfl, by have ze1 : vp_nar .boolean 1 = 1 := rfl; simp_all [setVM, inR], rfl, rfl⟩)
  · refine r_iload_n 1 rfl dX8_setValues_4 ?_
    refine r_bipush (v := 6) rfl dX8_setValues_5 ?_
    refine r_icmpge (tgt := 31) dX8_setValues_7 (by decide) (fun zh7 => ?_) (fun zh7 => ?_)
    · exact r_vret hG dX8_setValues_31 (⟨rfl, by have ze1 : vp_nar .boolean 1 = 1 := rfl; simp_all [setVM, inR], rfl, rfl⟩)
    · refine r_aload_n 0 rfl dX8_setValues_10 ?_
      refine r_getr dX8_setValues_11 fl_X8_9 rfl (hM _ _ _ rfl) ?_
      refine r_iload_n 1 rfl dX8_setValues_14 ?_
      refine r_iload_n 2 rfl dX8_setValues_15 ?_
      refine r_iast dX8_setValues_16 rfl (vpin_of (N := 6) (by decide) zh1 zh7) ?_
      refine r_aload_n 0 rfl dX8_setValues_17 ?_
      refine r_getr dX8_setValues_18 fl_X8_15 rfl (hM _ _ _ rfl) ?_
      refine r_iload_n 1 rfl dX8_setValues_21 ?_
      refine r_iload_n 3 rfl dX8_setValues_22 ?_
      refine r_iast dX8_setValues_23 rfl (vpin_of (N := 6) (by decide) zh1 zh7) ?_
      refine r_aload_n 0 rfl dX8_setValues_24 ?_
      refine r_getr dX8_setValues_25 fl_X8_18 rfl (hM _ _ _ rfl) ?_
      refine r_iload_n 1 rfl dX8_setValues_28 ?_
      refine r_iconst (v := 1) rfl dX8_setValues_29 ?_
      refine r_zast dX8_setValues_30 rfl (vpin_of (N := 6) (by decide) zh1 zh7) ?_
      exact r_vret hG dX8_setValues_31 (⟨rfl, by have ze1 : vp_nar .boolean 1 = 1 := rfl; simp_all [setVM, inR], rfl, rfl⟩)
end study

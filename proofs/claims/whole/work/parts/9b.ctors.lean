/-! the constructors, each at its cells (gen/ctors.py) -/
set_option maxRecDepth 100000 in
theorem ci_X5_1 {X : xG} {MI : Nat → Nat → Int32} {ML : Nat → Nat → Int64} {MR : Nat → Nat → Option Nat} (hOV : x_OV X) (hZ : Zr 2 MI ML MR) : Ct X yX5_init cX5_init 1 none 1 12 94 [.ref 1] 3 (SH.take 2) MI ML MR 15 (SH.take 14) (fun r MI' ML' MR' => r = none ∧ MI' = MI ∧ ML' = ML ∧ MR' = (u2 (u2 (u2 (sr (u2 MR 1 2 (some 2)) 3 (fun i => if i < 8 then some (3 + 1 + i) else none)) 1 7 (some 3)) 1 9 (some 12)) 1 10 (some 13))) := by
  refine Ct_of (by decide) (Nat.le_of_ble_eq_true rfl) (fun G hG => ?_)
  have hmn : G.2.2.2.2.2.2.2.2.2.1 = "<init>" := x_GI_mn hG
  refine r_aload_n 0 rfl dX5_init_0 ?_
  refine r_obj dX5_init_1 ol_X5_3 (Nat.le_of_ble_eq_true rfl) (Nat.le_of_ble_eq_true rfl) ?_
  refine r_aload_n 0 rfl dX5_init_4 ?_
  refine r_bipush (v := 6) rfl dX5_init_5 ?_
  refine r_newa (k0 := 2) (kd := 13) (N := 6) dX5_init_7 rfl (by decide) na_int rfl (ac_i (by decide)) (by decide) (by decide) (Nat.le_of_ble_eq_true rfl) (by repeat (first | exact hZ.w (Nat.le_of_ble_eq_true rfl) | refine Zr_r ?_ (Nat.le_of_ble_eq_true rfl) | refine Zr_s ?_ (Nat.le_of_ble_eq_true rfl) | refine Zr_i ?_ (Nat.le_of_ble_eq_true rfl) | refine Zr_kt ?_ (Nat.le_of_ble_eq_true rfl))) (Nat.le_of_ble_eq_true rfl) (Nat.le_of_ble_eq_true rfl) ?_
  refine r_putrF dX5_init_9 fl_X5_9 rfl rfl rfl hmn rfl ?_
  refine r_aload_n 0 rfl dX5_init_12 ?_
  refine r_bipush (v := 8) rfl dX5_init_13 ?_
  refine r_bipush (v := 6) rfl dX5_init_15 ?_
  refine r_mna (k0 := 3) (N := 8) (K := 6) hOV dX5_init_17 rfl (by decide) nl_X5_15 (by decide) (by decide) (by decide) (by decide) (Nat.le_of_ble_eq_true rfl) (Nat.le_of_ble_eq_true rfl) (by repeat (first | exact hZ.w (Nat.le_of_ble_eq_true rfl) | refine Zr_r ?_ (Nat.le_of_ble_eq_true rfl) | refine Zr_s ?_ (Nat.le_of_ble_eq_true rfl) | refine Zr_i ?_ (Nat.le_of_ble_eq_true rfl) | refine Zr_kt ?_ (Nat.le_of_ble_eq_true rfl))) (Nat.le_of_ble_eq_true rfl) (Nat.le_of_ble_eq_true rfl) ?_
  refine r_putrF dX5_init_21 fl_X5_17 rfl rfl rfl hmn rfl ?_
  refine r_aload_n 0 rfl dX5_init_24 ?_
  refine r_bipush (v := 16) rfl dX5_init_25 ?_
  refine r_newa (k0 := 12) (kd := 13) (N := 16) dX5_init_27 rfl (by decide) na_int rfl (ac_i (by decide)) (by decide) (by decide) (Nat.le_of_ble_eq_true rfl) (by repeat (first | exact hZ.w (Nat.le_of_ble_eq_true rfl) | refine Zr_r ?_ (Nat.le_of_ble_eq_true rfl) | refine Zr_s ?_ (Nat.le_of_ble_eq_true rfl) | refine Zr_i ?_ (Nat.le_of_ble_eq_true rfl) | refine Zr_kt ?_ (Nat.le_of_ble_eq_true rfl))) (Nat.le_of_ble_eq_true rfl) (Nat.le_of_ble_eq_true rfl) ?_
  refine r_putrF dX5_init_29 fl_X5_20 rfl rfl rfl hmn rfl ?_
  refine r_aload_n 0 rfl dX5_init_32 ?_
  refine r_bipush (v := 16) rfl dX5_init_33 ?_
  refine r_newa (k0 := 13) (kd := 13) (N := 16) dX5_init_35 rfl (by decide) na_int rfl (ac_i (by decide)) (by decide) (by decide) (Nat.le_of_ble_eq_true rfl) (by repeat (first | exact hZ.w (Nat.le_of_ble_eq_true rfl) | refine Zr_r ?_ (Nat.le_of_ble_eq_true rfl) | refine Zr_s ?_ (Nat.le_of_ble_eq_true rfl) | refine Zr_i ?_ (Nat.le_of_ble_eq_true rfl) | refine Zr_kt ?_ (Nat.le_of_ble_eq_true rfl))) (Nat.le_of_ble_eq_true rfl) (Nat.le_of_ble_eq_true rfl) ?_
  refine r_putrF dX5_init_37 fl_X5_23 rfl rfl rfl hmn rfl ?_
  exact r_vret hG dX5_init_40 ⟨rfl, rfl, rfl, rfl⟩
set_option maxRecDepth 100000 in
theorem ci_X5_16 {X : xG} {MI : Nat → Nat → Int32} {ML : Nat → Nat → Int64} {MR : Nat → Nat → Option Nat} (hOV : x_OV X) (hZ : Zr 17 MI ML MR) : Ct X yX5_init cX5_init 1 none 1 12 94 [.ref 16] 18 (SH.take 17) MI ML MR 30 (SH.take 29) (fun r MI' ML' MR' => r = none ∧ MI' = MI ∧ ML' = ML ∧ MR' = (u2 (u2 (u2 (sr (u2 MR 16 2 (some 17)) 18 (fun i => if i < 8 then some (18 + 1 + i) else none)) 16 7 (some 18)) 16 9 (some 27)) 16 10 (some 28))) := by
  refine Ct_of (by decide) (Nat.le_of_ble_eq_true rfl) (fun G hG => ?_)
  have hmn : G.2.2.2.2.2.2.2.2.2.1 = "<init>" := x_GI_mn hG
  refine r_aload_n 0 rfl dX5_init_0 ?_
  refine r_obj dX5_init_1 ol_X5_3 (Nat.le_of_ble_eq_true rfl) (Nat.le_of_ble_eq_true rfl) ?_
  refine r_aload_n 0 rfl dX5_init_4 ?_
  refine r_bipush (v := 6) rfl dX5_init_5 ?_
  refine r_newa (k0 := 17) (kd := 13) (N := 6) dX5_init_7 rfl (by decide) na_int rfl (ac_i (by decide)) (by decide) (by decide) (Nat.le_of_ble_eq_true rfl) (by repeat (first | exact hZ.w (Nat.le_of_ble_eq_true rfl) | refine Zr_r ?_ (Nat.le_of_ble_eq_true rfl) | refine Zr_s ?_ (Nat.le_of_ble_eq_true rfl) | refine Zr_i ?_ (Nat.le_of_ble_eq_true rfl) | refine Zr_kt ?_ (Nat.le_of_ble_eq_true rfl))) (Nat.le_of_ble_eq_true rfl) (Nat.le_of_ble_eq_true rfl) ?_
  refine r_putrF dX5_init_9 fl_X5_9 rfl rfl rfl hmn rfl ?_
  refine r_aload_n 0 rfl dX5_init_12 ?_
  refine r_bipush (v := 8) rfl dX5_init_13 ?_
  refine r_bipush (v := 6) rfl dX5_init_15 ?_
  refine r_mna (k0 := 18) (N := 8) (K := 6) hOV dX5_init_17 rfl (by decide) nl_X5_15 (by decide) (by decide) (by decide) (by decide) (Nat.le_of_ble_eq_true rfl) (Nat.le_of_ble_eq_true rfl) (by repeat (first | exact hZ.w (Nat.le_of_ble_eq_true rfl) | refine Zr_r ?_ (Nat.le_of_ble_eq_true rfl) | refine Zr_s ?_ (Nat.le_of_ble_eq_true rfl) | refine Zr_i ?_ (Nat.le_of_ble_eq_true rfl) | refine Zr_kt ?_ (Nat.le_of_ble_eq_true rfl))) (Nat.le_of_ble_eq_true rfl) (Nat.le_of_ble_eq_true rfl) ?_
  refine r_putrF dX5_init_21 fl_X5_17 rfl rfl rfl hmn rfl ?_
  refine r_aload_n 0 rfl dX5_init_24 ?_
  refine r_bipush (v := 16) rfl dX5_init_25 ?_
  refine r_newa (k0 := 27) (kd := 13) (N := 16) dX5_init_27 rfl (by decide) na_int rfl (ac_i (by decide)) (by decide) (by decide) (Nat.le_of_ble_eq_true rfl) (by repeat (first | exact hZ.w (Nat.le_of_ble_eq_true rfl) | refine Zr_r ?_ (Nat.le_of_ble_eq_true rfl) | refine Zr_s ?_ (Nat.le_of_ble_eq_true rfl) | refine Zr_i ?_ (Nat.le_of_ble_eq_true rfl) | refine Zr_kt ?_ (Nat.le_of_ble_eq_true rfl))) (Nat.le_of_ble_eq_true rfl) (Nat.le_of_ble_eq_true rfl) ?_
  refine r_putrF dX5_init_29 fl_X5_20 rfl rfl rfl hmn rfl ?_
  refine r_aload_n 0 rfl dX5_init_32 ?_
  refine r_bipush (v := 16) rfl dX5_init_33 ?_
  refine r_newa (k0 := 28) (kd := 13) (N := 16) dX5_init_35 rfl (by decide) na_int rfl (ac_i (by decide)) (by decide) (by decide) (Nat.le_of_ble_eq_true rfl) (by repeat (first | exact hZ.w (Nat.le_of_ble_eq_true rfl) | refine Zr_r ?_ (Nat.le_of_ble_eq_true rfl) | refine Zr_s ?_ (Nat.le_of_ble_eq_true rfl) | refine Zr_i ?_ (Nat.le_of_ble_eq_true rfl) | refine Zr_kt ?_ (Nat.le_of_ble_eq_true rfl))) (Nat.le_of_ble_eq_true rfl) (Nat.le_of_ble_eq_true rfl) ?_
  refine r_putrF dX5_init_37 fl_X5_23 rfl rfl rfl hmn rfl ?_
  exact r_vret hG dX5_init_40 ⟨rfl, rfl, rfl, rfl⟩
set_option maxRecDepth 100000 in
theorem ci_X6_14 {X : xG} {MI : Nat → Nat → Int32} {ML : Nat → Nat → Int64} {MR : Nat → Nat → Option Nat} (hOV : x_OV X) (hZ : Zr 15 MI ML MR) : Ct X yX6_init cX6_init 1 none 2 14 705 [.ref 14] 16 (SH.take 15) MI ML MR 30 (SH.take 29) (fun r MI' ML' MR' => r = none ∧ MI' = MI ∧ ML' = ML ∧ MR' = (u2 (u2 (u2 (u2 (sr (u2 (u2 MR 14 0 (some 15)) 16 2 (some 17)) 18 (fun i => if i < 8 then some (18 + 1 + i) else none)) 16 7 (some 18)) 16 9 (some 27)) 16 10 (some 28)) 14 2 (some 16))) := by
  refine Ct_of (by decide) (Nat.le_of_ble_eq_true rfl) (fun G hG => ?_)
  have hmn : G.2.2.2.2.2.2.2.2.2.1 = "<init>" := x_GI_mn hG
  refine r_aload_n 0 rfl dX6_init_0 ?_
  refine r_obj dX6_init_1 ol_X6_3 (Nat.le_of_ble_eq_true rfl) (Nat.le_of_ble_eq_true rfl) ?_
  refine r_aload_n 0 rfl dX6_init_4 ?_
  refine r_sipush (v := 600) rfl dX6_init_5 ?_
  refine r_newa (k0 := 15) (kd := 12) (N := 600) dX6_init_8 rfl (by decide) na_byte rfl (ac_i (by decide)) (by decide) (by decide) (Nat.le_of_ble_eq_true rfl) (by repeat (first | exact hZ.w (Nat.le_of_ble_eq_true rfl) | refine Zr_r ?_ (Nat.le_of_ble_eq_true rfl) | refine Zr_s ?_ (Nat.le_of_ble_eq_true rfl) | refine Zr_i ?_ (Nat.le_of_ble_eq_true rfl) | refine Zr_kt ?_ (Nat.le_of_ble_eq_true rfl))) (Nat.le_of_ble_eq_true rfl) (Nat.le_of_ble_eq_true rfl) ?_
  refine r_putrF dX6_init_10 fl_X6_11 rfl rfl rfl hmn rfl ?_
  refine r_aload_n 0 rfl dX6_init_13 ?_
  refine r_new (k0 := 16) dX6_init_14 rfl cl_5 (by decide) nl_X6_15 ni_X5 ii_X5 dv_5 (by repeat (first | exact hZ.w (Nat.le_of_ble_eq_true rfl) | refine Zr_r ?_ (Nat.le_of_ble_eq_true rfl) | refine Zr_s ?_ (Nat.le_of_ble_eq_true rfl) | refine Zr_i ?_ (Nat.le_of_ble_eq_true rfl) | refine Zr_kt ?_ (Nat.le_of_ble_eq_true rfl))) (Nat.le_of_ble_eq_true rfl) (Nat.le_of_ble_eq_true rfl) ?_
  refine r_dup rfl dX6_init_17 ?_
  refine r_callI (rt' := none) (a := 16) (as := []) dX6_init_18 lk_X6_17 mb_X5_init in_X5_init rfl (ci_X5_16 hOV (by repeat (first | exact hZ.w (Nat.le_of_ble_eq_true rfl) | refine Zr_r ?_ (Nat.le_of_ble_eq_true rfl) | refine Zr_s ?_ (Nat.le_of_ble_eq_true rfl) | refine Zr_i ?_ (Nat.le_of_ble_eq_true rfl) | refine Zr_kt ?_ (Nat.le_of_ble_eq_true rfl)))) rfl rfl (Nat.le_of_ble_eq_true rfl) rfl (fun zr zA zB zC zq => ?_)
  obtain ⟨rfl, rfl, rfl, rfl⟩ := zq
  refine r_putrF dX6_init_21 fl_X6_18 rfl rfl rfl hmn rfl ?_
  exact r_vret hG dX6_init_24 ⟨rfl, rfl, rfl, rfl⟩
set_option maxRecDepth 100000 in
theorem ci_X0_29 {X : xG} {MI : Nat → Nat → Int32} {ML : Nat → Nat → Int64} {MR : Nat → Nat → Option Nat} (hOV : x_OV X) (hZ : Zr 30 MI ML MR) : Ct X yX0_init cX0_init 2 none 1 13 108 [.ref 29, .ref 1] 31 (SH.take 30) MI ML MR 44 (SH.take 43) (fun r MI' ML' MR' => r = none ∧ MI' = MI ∧ ML' = ML ∧ MR' = (u2 (u2 (sr MR 30 (fun i => if i < 12 then some (30 + 1 + i) else none)) 29 1 (some 30)) 29 0 (some 1))) := by
  refine Ct_of (by decide) (Nat.le_of_ble_eq_true rfl) (fun G hG => ?_)
  have hmn : G.2.2.2.2.2.2.2.2.2.1 = "<init>" := x_GI_mn hG
  refine r_aload_n 0 rfl dX0_init_0 ?_
  refine r_obj dX0_init_1 ol_X0_5 (Nat.le_of_ble_eq_true rfl) (Nat.le_of_ble_eq_true rfl) ?_
  refine r_aload_n 0 rfl dX0_init_4 ?_
  refine r_bipush (v := 12) rfl dX0_init_5 ?_
  refine r_bipush (v := 8) rfl dX0_init_7 ?_
  refine r_mna (k0 := 30) (N := 12) (K := 8) hOV dX0_init_9 rfl (by decide) nl_X0_11 (by decide) (by decide) (by decide) (by decide) (Nat.le_of_ble_eq_true rfl) (Nat.le_of_ble_eq_true rfl) (by repeat (first | exact hZ.w (Nat.le_of_ble_eq_true rfl) | refine Zr_r ?_ (Nat.le_of_ble_eq_true rfl) | refine Zr_s ?_ (Nat.le_of_ble_eq_true rfl) | refine Zr_i ?_ (Nat.le_of_ble_eq_true rfl) | refine Zr_kt ?_ (Nat.le_of_ble_eq_true rfl))) (Nat.le_of_ble_eq_true rfl) (Nat.le_of_ble_eq_true rfl) ?_
  refine r_putrF dX0_init_13 fl_X0_13 rfl rfl rfl hmn rfl ?_
  refine r_aload_n 0 rfl dX0_init_16 ?_
  refine r_aload_n 1 rfl dX0_init_17 ?_
  refine r_putrF dX0_init_18 fl_X0_16 rfl rfl rfl hmn rfl ?_
  exact r_vret hG dX0_init_21 ⟨rfl, rfl, rfl, rfl⟩
set_option maxRecDepth 100000 in
theorem ci_X3_48 {X : xG} {MI : Nat → Nat → Int32} {ML : Nat → Nat → Int64} {MR : Nat → Nat → Option Nat} (hOV : x_OV X) (hZ : Zr 49 MI ML MR) : Ct X yX3_init cX3_init 1 none 1 2 10 [.ref 48] 50 (SH.take 49) MI ML MR 52 (SH.take 51) (fun r MI' ML' MR' => r = none ∧ MI' = MI ∧ ML' = ML ∧ MR' = (u2 (u2 MR 48 0 (some 49)) 48 1 (some 50))) := by
  refine Ct_of (by decide) (Nat.le_of_ble_eq_true rfl) (fun G hG => ?_)
  have hmn : G.2.2.2.2.2.2.2.2.2.1 = "<init>" := x_GI_mn hG
  refine r_aload_n 0 rfl dX3_init_0 ?_
  refine r_obj dX3_init_1 ol_X3_3 (Nat.le_of_ble_eq_true rfl) (Nat.le_of_ble_eq_true rfl) ?_
  refine r_aload_n 0 rfl dX3_init_4 ?_
  refine r_iconst (v := 5) rfl dX3_init_5 ?_
  refine r_newa (k0 := 49) (kd := 14) (N := 5) dX3_init_6 rfl (by decide) na_long rfl ac_l (by decide) (by decide) (Nat.le_of_ble_eq_true rfl) (by repeat (first | exact hZ.w (Nat.le_of_ble_eq_true rfl) | refine Zr_r ?_ (Nat.le_of_ble_eq_true rfl) | refine Zr_s ?_ (Nat.le_of_ble_eq_true rfl) | refine Zr_i ?_ (Nat.le_of_ble_eq_true rfl) | refine Zr_kt ?_ (Nat.le_of_ble_eq_true rfl))) (Nat.le_of_ble_eq_true rfl) (Nat.le_of_ble_eq_true rfl) ?_
  refine r_putrF dX3_init_8 fl_X3_9 rfl rfl rfl hmn rfl ?_
  refine r_aload_n 0 rfl dX3_init_11 ?_
  refine r_iconst (v := 5) rfl dX3_init_12 ?_
  refine r_newa (k0 := 50) (kd := 14) (N := 5) dX3_init_13 rfl (by decide) na_long rfl ac_l (by decide) (by decide) (Nat.le_of_ble_eq_true rfl) (by repeat (first | exact hZ.w (Nat.le_of_ble_eq_true rfl) | refine Zr_r ?_ (Nat.le_of_ble_eq_true rfl) | refine Zr_s ?_ (Nat.le_of_ble_eq_true rfl) | refine Zr_i ?_ (Nat.le_of_ble_eq_true rfl) | refine Zr_kt ?_ (Nat.le_of_ble_eq_true rfl))) (Nat.le_of_ble_eq_true rfl) (Nat.le_of_ble_eq_true rfl) ?_
  refine r_putrF dX3_init_15 fl_X3_15 rfl rfl rfl hmn rfl ?_
  exact r_vret hG dX3_init_18 ⟨rfl, rfl, rfl, rfl⟩
set_option maxRecDepth 100000 in
theorem ci_X8_43 {X : xG} {MI : Nat → Nat → Int32} {ML : Nat → Nat → Int64} {MR : Nat → Nat → Option Nat} (hOV : x_OV X) (hZ : Zr 44 MI ML MR) : Ct X yX8_init cX8_init 2 none 2 13 82 [.ref 43, .ref 1] 45 (SH.take 44) MI ML MR 58 (SH.take 57) (fun r MI' ML' MR' => r = none ∧ MI' = (u2 MI 43 7 (-2)) ∧ ML' = ML ∧ MR' = (u2 (u2 (u2 (u2 (u2 (u2 (u2 (u2 (u2 (u2 (u2 (u2 (u2 (u2 MR 43 1 (some 44)) 43 2 (some 45)) 43 3 (some 46)) 43 4 (some 47)) 48 0 (some 49)) 48 1 (some 50)) 43 5 (some 48)) 43 8 (some 51)) 43 9 (some 52)) 43 10 (some 53)) 43 11 (some 54)) 43 12 (some 55)) 43 13 (some 56)) 43 0 (some 1))) := by
  refine Ct_of (by decide) (Nat.le_of_ble_eq_true rfl) (fun G hG => ?_)
  have hmn : G.2.2.2.2.2.2.2.2.2.1 = "<init>" := x_GI_mn hG
  refine r_aload_n 0 rfl dX8_init_0 ?_
  refine r_obj dX8_init_1 ol_X8_3 (Nat.le_of_ble_eq_true rfl) (Nat.le_of_ble_eq_true rfl) ?_
  refine r_aload_n 0 rfl dX8_init_4 ?_
  refine r_bipush (v := 6) rfl dX8_init_5 ?_
  refine r_newa (k0 := 44) (kd := 13) (N := 6) dX8_init_7 rfl (by decide) na_int rfl (ac_i (by decide)) (by decide) (by decide) (Nat.le_of_ble_eq_true rfl) (by repeat (first | exact hZ.w (Nat.le_of_ble_eq_true rfl) | refine Zr_r ?_ (Nat.le_of_ble_eq_true rfl) | refine Zr_s ?_ (Nat.le_of_ble_eq_true rfl) | refine Zr_i ?_ (Nat.le_of_ble_eq_true rfl) | refine Zr_kt ?_ (Nat.le_of_ble_eq_true rfl))) (Nat.le_of_ble_eq_true rfl) (Nat.le_of_ble_eq_true rfl) ?_
  refine r_putrF dX8_init_9 fl_X8_9 rfl rfl rfl hmn rfl ?_
  refine r_aload_n 0 rfl dX8_init_12 ?_
  refine r_bipush (v := 6) rfl dX8_init_13 ?_
  refine r_newa (k0 := 45) (kd := 13) (N := 6) dX8_init_15 rfl (by decide) na_int rfl (ac_i (by decide)) (by decide) (by decide) (Nat.le_of_ble_eq_true rfl) (by repeat (first | exact hZ.w (Nat.le_of_ble_eq_true rfl) | refine Zr_r ?_ (Nat.le_of_ble_eq_true rfl) | refine Zr_s ?_ (Nat.le_of_ble_eq_true rfl) | refine Zr_i ?_ (Nat.le_of_ble_eq_true rfl) | refine Zr_kt ?_ (Nat.le_of_ble_eq_true rfl))) (Nat.le_of_ble_eq_true rfl) (Nat.le_of_ble_eq_true rfl) ?_
  refine r_putrF dX8_init_17 fl_X8_15 rfl rfl rfl hmn rfl ?_
  refine r_aload_n 0 rfl dX8_init_20 ?_
  refine r_bipush (v := 6) rfl dX8_init_21 ?_
  refine r_newa (k0 := 46) (kd := 15) (N := 6) dX8_init_23 rfl (by decide) na_boolean rfl (ac_i (by decide)) (by decide) (by decide) (Nat.le_of_ble_eq_true rfl) (by repeat (first | exact hZ.w (Nat.le_of_ble_eq_true rfl) | refine Zr_r ?_ (Nat.le_of_ble_eq_true rfl) | refine Zr_s ?_ (Nat.le_of_ble_eq_true rfl) | refine Zr_i ?_ (Nat.le_of_ble_eq_true rfl) | refine Zr_kt ?_ (Nat.le_of_ble_eq_true rfl))) (Nat.le_of_ble_eq_true rfl) (Nat.le_of_ble_eq_true rfl) ?_
  refine r_putrF dX8_init_25 fl_X8_18 rfl rfl rfl hmn rfl ?_
  refine r_aload_n 0 rfl dX8_init_28 ?_
  refine r_bipush (v := 8) rfl dX8_init_29 ?_
  refine r_newa (k0 := 47) (kd := 15) (N := 8) dX8_init_31 rfl (by decide) na_boolean rfl (ac_i (by decide)) (by decide) (by decide) (Nat.le_of_ble_eq_true rfl) (by repeat (first | exact hZ.w (Nat.le_of_ble_eq_true rfl) | refine Zr_r ?_ (Nat.le_of_ble_eq_true rfl) | refine Zr_s ?_ (Nat.le_of_ble_eq_true rfl) | refine Zr_i ?_ (Nat.le_of_ble_eq_true rfl) | refine Zr_kt ?_ (Nat.le_of_ble_eq_true rfl))) (Nat.le_of_ble_eq_true rfl) (Nat.le_of_ble_eq_true rfl) ?_
  refine r_putrF dX8_init_33 fl_X8_22 rfl rfl rfl hmn rfl ?_
  refine r_aload_n 0 rfl dX8_init_36 ?_
  refine r_new (k0 := 48) dX8_init_37 rfl cl_3 (by decide) nl_X8_25 ni_X3 ii_X3 dv_3 (by repeat (first | exact hZ.w (Nat.le_of_ble_eq_true rfl) | refine Zr_r ?_ (Nat.le_of_ble_eq_true rfl) | refine Zr_s ?_ (Nat.le_of_ble_eq_true rfl) | refine Zr_i ?_ (Nat.le_of_ble_eq_true rfl) | refine Zr_kt ?_ (Nat.le_of_ble_eq_true rfl))) (Nat.le_of_ble_eq_true rfl) (Nat.le_of_ble_eq_true rfl) ?_
  refine r_dup rfl dX8_init_40 ?_
  refine r_callI (rt' := none) (a := 48) (as := []) dX8_init_41 lk_X8_27 mb_X3_init in_X3_init rfl (ci_X3_48 hOV (by repeat (first | exact hZ.w (Nat.le_of_ble_eq_true rfl) | refine Zr_r ?_ (Nat.le_of_ble_eq_true rfl) | refine Zr_s ?_ (Nat.le_of_ble_eq_true rfl) | refine Zr_i ?_ (Nat.le_of_ble_eq_true rfl) | refine Zr_kt ?_ (Nat.le_of_ble_eq_true rfl)))) rfl rfl (Nat.le_of_ble_eq_true rfl) rfl (fun zr zA zB zC zq => ?_)
  obtain ⟨rfl, rfl, rfl, rfl⟩ := zq
  refine r_putrF dX8_init_44 fl_X8_28 rfl rfl rfl hmn rfl ?_
  refine r_aload_n 0 rfl dX8_init_47 ?_
  refine r_bipush (v := (-2)) rfl dX8_init_48 ?_
  refine r_puti dX8_init_50 fl_X8_32 rfl rfl rfl ?_
  refine r_aload_n 0 rfl dX8_init_53 ?_
  refine r_bipush (v := 8) rfl dX8_init_54 ?_
  refine r_newa (k0 := 51) (kd := 13) (N := 8) dX8_init_56 rfl (by decide) na_int rfl (ac_i (by decide)) (by decide) (by decide) (Nat.le_of_ble_eq_true rfl) (by repeat (first | exact hZ.w (Nat.le_of_ble_eq_true rfl) | refine Zr_r ?_ (Nat.le_of_ble_eq_true rfl) | refine Zr_s ?_ (Nat.le_of_ble_eq_true rfl) | refine Zr_i ?_ (Nat.le_of_ble_eq_true rfl) | refine Zr_kt ?_ (Nat.le_of_ble_eq_true rfl))) (Nat.le_of_ble_eq_true rfl) (Nat.le_of_ble_eq_true rfl) ?_
  refine r_putrF dX8_init_58 fl_X8_36 rfl rfl rfl hmn rfl ?_
  refine r_aload_n 0 rfl dX8_init_61 ?_
  refine r_bipush (v := 8) rfl dX8_init_62 ?_
  refine r_newa (k0 := 52) (kd := 13) (N := 8) dX8_init_64 rfl (by decide) na_int rfl (ac_i (by decide)) (by decide) (by decide) (Nat.le_of_ble_eq_true rfl) (by repeat (first | exact hZ.w (Nat.le_of_ble_eq_true rfl) | refine Zr_r ?_ (Nat.le_of_ble_eq_true rfl) | refine Zr_s ?_ (Nat.le_of_ble_eq_true rfl) | refine Zr_i ?_ (Nat.le_of_ble_eq_true rfl) | refine Zr_kt ?_ (Nat.le_of_ble_eq_true rfl))) (Nat.le_of_ble_eq_true rfl) (Nat.le_of_ble_eq_true rfl) ?_
  refine r_putrF dX8_init_66 fl_X8_39 rfl rfl rfl hmn rfl ?_
  refine r_aload_n 0 rfl dX8_init_69 ?_
  refine r_bipush (v := 8) rfl dX8_init_70 ?_
  refine r_newa (k0 := 53) (kd := 13) (N := 8) dX8_init_72 rfl (by decide) na_int rfl (ac_i (by decide)) (by decide) (by decide) (Nat.le_of_ble_eq_true rfl) (by repeat (first | exact hZ.w (Nat.le_of_ble_eq_true rfl) | refine Zr_r ?_ (Nat.le_of_ble_eq_true rfl) | refine Zr_s ?_ (Nat.le_of_ble_eq_true rfl) | refine Zr_i ?_ (Nat.le_of_ble_eq_true rfl) | refine Zr_kt ?_ (Nat.le_of_ble_eq_true rfl))) (Nat.le_of_ble_eq_true rfl) (Nat.le_of_ble_eq_true rfl) ?_
  refine r_putrF dX8_init_74 fl_X8_42 rfl rfl rfl hmn rfl ?_
  refine r_aload_n 0 rfl dX8_init_77 ?_
  refine r_bipush (v := 8) rfl dX8_init_78 ?_
  refine r_newa (k0 := 54) (kd := 13) (N := 8) dX8_init_80 rfl (by decide) na_int rfl (ac_i (by decide)) (by decide) (by decide) (Nat.le_of_ble_eq_true rfl) (by repeat (first | exact hZ.w (Nat.le_of_ble_eq_true rfl) | refine Zr_r ?_ (Nat.le_of_ble_eq_true rfl) | refine Zr_s ?_ (Nat.le_of_ble_eq_true rfl) | refine Zr_i ?_ (Nat.le_of_ble_eq_true rfl) | refine Zr_kt ?_ (Nat.le_of_ble_eq_true rfl))) (Nat.le_of_ble_eq_true rfl) (Nat.le_of_ble_eq_true rfl) ?_
  refine r_putrF dX8_init_82 fl_X8_45 rfl rfl rfl hmn rfl ?_
  refine r_aload_n 0 rfl dX8_init_85 ?_
  refine r_bipush (v := 8) rfl dX8_init_86 ?_
  refine r_newa (k0 := 55) (kd := 13) (N := 8) dX8_init_88 rfl (by decide) na_int rfl (ac_i (by decide)) (by decide) (by decide) (Nat.le_of_ble_eq_true rfl) (by repeat (first | exact hZ.w (Nat.le_of_ble_eq_true rfl) | refine Zr_r ?_ (Nat.le_of_ble_eq_true rfl) | refine Zr_s ?_ (Nat.le_of_ble_eq_true rfl) | refine Zr_i ?_ (Nat.le_of_ble_eq_true rfl) | refine Zr_kt ?_ (Nat.le_of_ble_eq_true rfl))) (Nat.le_of_ble_eq_true rfl) (Nat.le_of_ble_eq_true rfl) ?_
  refine r_putrF dX8_init_90 fl_X8_48 rfl rfl rfl hmn rfl ?_
  refine r_aload_n 0 rfl dX8_init_93 ?_
  refine r_iconst (v := 4) rfl dX8_init_94 ?_
  refine r_newa (k0 := 56) (kd := 13) (N := 4) dX8_init_95 rfl (by decide) na_int rfl (ac_i (by decide)) (by decide) (by decide) (Nat.le_of_ble_eq_true rfl) (by repeat (first | exact hZ.w (Nat.le_of_ble_eq_true rfl) | refine Zr_r ?_ (Nat.le_of_ble_eq_true rfl) | refine Zr_s ?_ (Nat.le_of_ble_eq_true rfl) | refine Zr_i ?_ (Nat.le_of_ble_eq_true rfl) | refine Zr_kt ?_ (Nat.le_of_ble_eq_true rfl))) (Nat.le_of_ble_eq_true rfl) (Nat.le_of_ble_eq_true rfl) ?_
  refine r_putrF dX8_init_97 fl_X8_51 rfl rfl rfl hmn rfl ?_
  refine r_aload_n 0 rfl dX8_init_100 ?_
  refine r_aload_n 1 rfl dX8_init_101 ?_
  refine r_putrF dX8_init_102 fl_X8_54 rfl rfl rfl hmn rfl ?_
  exact r_vret hG dX8_init_105 ⟨rfl, rfl, rfl, rfl⟩
set_option maxRecDepth 100000 in
theorem ci_X3_64 {X : xG} {MI : Nat → Nat → Int32} {ML : Nat → Nat → Int64} {MR : Nat → Nat → Option Nat} (hOV : x_OV X) (hZ : Zr 65 MI ML MR) : Ct X yX3_init cX3_init 1 none 1 2 10 [.ref 64] 66 (SH.take 65) MI ML MR 68 (SH.take 67) (fun r MI' ML' MR' => r = none ∧ MI' = MI ∧ ML' = ML ∧ MR' = (u2 (u2 MR 64 0 (some 65)) 64 1 (some 66))) := by
  refine Ct_of (by decide) (Nat.le_of_ble_eq_true rfl) (fun G hG => ?_)
  have hmn : G.2.2.2.2.2.2.2.2.2.1 = "<init>" := x_GI_mn hG
  refine r_aload_n 0 rfl dX3_init_0 ?_
  refine r_obj dX3_init_1 ol_X3_3 (Nat.le_of_ble_eq_true rfl) (Nat.le_of_ble_eq_true rfl) ?_
  refine r_aload_n 0 rfl dX3_init_4 ?_
  refine r_iconst (v := 5) rfl dX3_init_5 ?_
  refine r_newa (k0 := 65) (kd := 14) (N := 5) dX3_init_6 rfl (by decide) na_long rfl ac_l (by decide) (by decide) (Nat.le_of_ble_eq_true rfl) (by repeat (first | exact hZ.w (Nat.le_of_ble_eq_true rfl) | refine Zr_r ?_ (Nat.le_of_ble_eq_true rfl) | refine Zr_s ?_ (Nat.le_of_ble_eq_true rfl) | refine Zr_i ?_ (Nat.le_of_ble_eq_true rfl) | refine Zr_kt ?_ (Nat.le_of_ble_eq_true rfl))) (Nat.le_of_ble_eq_true rfl) (Nat.le_of_ble_eq_true rfl) ?_
  refine r_putrF dX3_init_8 fl_X3_9 rfl rfl rfl hmn rfl ?_
  refine r_aload_n 0 rfl dX3_init_11 ?_
  refine r_iconst (v := 5) rfl dX3_init_12 ?_
  refine r_newa (k0 := 66) (kd := 14) (N := 5) dX3_init_13 rfl (by decide) na_long rfl ac_l (by decide) (by decide) (Nat.le_of_ble_eq_true rfl) (by repeat (first | exact hZ.w (Nat.le_of_ble_eq_true rfl) | refine Zr_r ?_ (Nat.le_of_ble_eq_true rfl) | refine Zr_s ?_ (Nat.le_of_ble_eq_true rfl) | refine Zr_i ?_ (Nat.le_of_ble_eq_true rfl) | refine Zr_kt ?_ (Nat.le_of_ble_eq_true rfl))) (Nat.le_of_ble_eq_true rfl) (Nat.le_of_ble_eq_true rfl) ?_
  refine r_putrF dX3_init_15 fl_X3_15 rfl rfl rfl hmn rfl ?_
  exact r_vret hG dX3_init_18 ⟨rfl, rfl, rfl, rfl⟩
set_option maxRecDepth 100000 in
theorem ci_X3_67 {X : xG} {MI : Nat → Nat → Int32} {ML : Nat → Nat → Int64} {MR : Nat → Nat → Option Nat} (hOV : x_OV X) (hZ : Zr 68 MI ML MR) : Ct X yX3_init cX3_init 1 none 1 2 10 [.ref 67] 69 (SH.take 68) MI ML MR 71 (SH.take 70) (fun r MI' ML' MR' => r = none ∧ MI' = MI ∧ ML' = ML ∧ MR' = (u2 (u2 MR 67 0 (some 68)) 67 1 (some 69))) := by
  refine Ct_of (by decide) (Nat.le_of_ble_eq_true rfl) (fun G hG => ?_)
  have hmn : G.2.2.2.2.2.2.2.2.2.1 = "<init>" := x_GI_mn hG
  refine r_aload_n 0 rfl dX3_init_0 ?_
  refine r_obj dX3_init_1 ol_X3_3 (Nat.le_of_ble_eq_true rfl) (Nat.le_of_ble_eq_true rfl) ?_
  refine r_aload_n 0 rfl dX3_init_4 ?_
  refine r_iconst (v := 5) rfl dX3_init_5 ?_
  refine r_newa (k0 := 68) (kd := 14) (N := 5) dX3_init_6 rfl (by decide) na_long rfl ac_l (by decide) (by decide) (Nat.le_of_ble_eq_true rfl) (by repeat (first | exact hZ.w (Nat.le_of_ble_eq_true rfl) | refine Zr_r ?_ (Nat.le_of_ble_eq_true rfl) | refine Zr_s ?_ (Nat.le_of_ble_eq_true rfl) | refine Zr_i ?_ (Nat.le_of_ble_eq_true rfl) | refine Zr_kt ?_ (Nat.le_of_ble_eq_true rfl))) (Nat.le_of_ble_eq_true rfl) (Nat.le_of_ble_eq_true rfl) ?_
  refine r_putrF dX3_init_8 fl_X3_9 rfl rfl rfl hmn rfl ?_
  refine r_aload_n 0 rfl dX3_init_11 ?_
  refine r_iconst (v := 5) rfl dX3_init_12 ?_
  refine r_newa (k0 := 69) (kd := 14) (N := 5) dX3_init_13 rfl (by decide) na_long rfl ac_l (by decide) (by decide) (Nat.le_of_ble_eq_true rfl) (by repeat (first | exact hZ.w (Nat.le_of_ble_eq_true rfl) | refine Zr_r ?_ (Nat.le_of_ble_eq_true rfl) | refine Zr_s ?_ (Nat.le_of_ble_eq_true rfl) | refine Zr_i ?_ (Nat.le_of_ble_eq_true rfl) | refine Zr_kt ?_ (Nat.le_of_ble_eq_true rfl))) (Nat.le_of_ble_eq_true rfl) (Nat.le_of_ble_eq_true rfl) ?_
  refine r_putrF dX3_init_15 fl_X3_15 rfl rfl rfl hmn rfl ?_
  exact r_vret hG dX3_init_18 ⟨rfl, rfl, rfl, rfl⟩
set_option maxRecDepth 100000 in
theorem ci_X3_70 {X : xG} {MI : Nat → Nat → Int32} {ML : Nat → Nat → Int64} {MR : Nat → Nat → Option Nat} (hOV : x_OV X) (hZ : Zr 71 MI ML MR) : Ct X yX3_init cX3_init 1 none 1 2 10 [.ref 70] 72 (SH.take 71) MI ML MR 74 (SH.take 73) (fun r MI' ML' MR' => r = none ∧ MI' = MI ∧ ML' = ML ∧ MR' = (u2 (u2 MR 70 0 (some 71)) 70 1 (some 72))) := by
  refine Ct_of (by decide) (Nat.le_of_ble_eq_true rfl) (fun G hG => ?_)
  have hmn : G.2.2.2.2.2.2.2.2.2.1 = "<init>" := x_GI_mn hG
  refine r_aload_n 0 rfl dX3_init_0 ?_
  refine r_obj dX3_init_1 ol_X3_3 (Nat.le_of_ble_eq_true rfl) (Nat.le_of_ble_eq_true rfl) ?_
  refine r_aload_n 0 rfl dX3_init_4 ?_
  refine r_iconst (v := 5) rfl dX3_init_5 ?_
  refine r_newa (k0 := 71) (kd := 14) (N := 5) dX3_init_6 rfl (by decide) na_long rfl ac_l (by decide) (by decide) (Nat.le_of_ble_eq_true rfl) (by repeat (first | exact hZ.w (Nat.le_of_ble_eq_true rfl) | refine Zr_r ?_ (Nat.le_of_ble_eq_true rfl) | refine Zr_s ?_ (Nat.le_of_ble_eq_true rfl) | refine Zr_i ?_ (Nat.le_of_ble_eq_true rfl) | refine Zr_kt ?_ (Nat.le_of_ble_eq_true rfl))) (Nat.le_of_ble_eq_true rfl) (Nat.le_of_ble_eq_true rfl) ?_
  refine r_putrF dX3_init_8 fl_X3_9 rfl rfl rfl hmn rfl ?_
  refine r_aload_n 0 rfl dX3_init_11 ?_
  refine r_iconst (v := 5) rfl dX3_init_12 ?_
  refine r_newa (k0 := 72) (kd := 14) (N := 5) dX3_init_13 rfl (by decide) na_long rfl ac_l (by decide) (by decide) (Nat.le_of_ble_eq_true rfl) (by repeat (first | exact hZ.w (Nat.le_of_ble_eq_true rfl) | refine Zr_r ?_ (Nat.le_of_ble_eq_true rfl) | refine Zr_s ?_ (Nat.le_of_ble_eq_true rfl) | refine Zr_i ?_ (Nat.le_of_ble_eq_true rfl) | refine Zr_kt ?_ (Nat.le_of_ble_eq_true rfl))) (Nat.le_of_ble_eq_true rfl) (Nat.le_of_ble_eq_true rfl) ?_
  refine r_putrF dX3_init_15 fl_X3_15 rfl rfl rfl hmn rfl ?_
  exact r_vret hG dX3_init_18 ⟨rfl, rfl, rfl, rfl⟩
set_option maxRecDepth 100000 in
theorem ci_X3_73 {X : xG} {MI : Nat → Nat → Int32} {ML : Nat → Nat → Int64} {MR : Nat → Nat → Option Nat} (hOV : x_OV X) (hZ : Zr 74 MI ML MR) : Ct X yX3_init cX3_init 1 none 1 2 10 [.ref 73] 75 (SH.take 74) MI ML MR 77 (SH.take 76) (fun r MI' ML' MR' => r = none ∧ MI' = MI ∧ ML' = ML ∧ MR' = (u2 (u2 MR 73 0 (some 74)) 73 1 (some 75))) := by
  refine Ct_of (by decide) (Nat.le_of_ble_eq_true rfl) (fun G hG => ?_)
  have hmn : G.2.2.2.2.2.2.2.2.2.1 = "<init>" := x_GI_mn hG
  refine r_aload_n 0 rfl dX3_init_0 ?_
  refine r_obj dX3_init_1 ol_X3_3 (Nat.le_of_ble_eq_true rfl) (Nat.le_of_ble_eq_true rfl) ?_
  refine r_aload_n 0 rfl dX3_init_4 ?_
  refine r_iconst (v := 5) rfl dX3_init_5 ?_
  refine r_newa (k0 := 74) (kd := 14) (N := 5) dX3_init_6 rfl (by decide) na_long rfl ac_l (by decide) (by decide) (Nat.le_of_ble_eq_true rfl) (by repeat (first | exact hZ.w (Nat.le_of_ble_eq_true rfl) | refine Zr_r ?_ (Nat.le_of_ble_eq_true rfl) | refine Zr_s ?_ (Nat.le_of_ble_eq_true rfl) | refine Zr_i ?_ (Nat.le_of_ble_eq_true rfl) | refine Zr_kt ?_ (Nat.le_of_ble_eq_true rfl))) (Nat.le_of_ble_eq_true rfl) (Nat.le_of_ble_eq_true rfl) ?_
  refine r_putrF dX3_init_8 fl_X3_9 rfl rfl rfl hmn rfl ?_
  refine r_aload_n 0 rfl dX3_init_11 ?_
  refine r_iconst (v := 5) rfl dX3_init_12 ?_
  refine r_newa (k0 := 75) (kd := 14) (N := 5) dX3_init_13 rfl (by decide) na_long rfl ac_l (by decide) (by decide) (Nat.le_of_ble_eq_true rfl) (by repeat (first | exact hZ.w (Nat.le_of_ble_eq_true rfl) | refine Zr_r ?_ (Nat.le_of_ble_eq_true rfl) | refine Zr_s ?_ (Nat.le_of_ble_eq_true rfl) | refine Zr_i ?_ (Nat.le_of_ble_eq_true rfl) | refine Zr_kt ?_ (Nat.le_of_ble_eq_true rfl))) (Nat.le_of_ble_eq_true rfl) (Nat.le_of_ble_eq_true rfl) ?_
  refine r_putrF dX3_init_15 fl_X3_15 rfl rfl rfl hmn rfl ?_
  exact r_vret hG dX3_init_18 ⟨rfl, rfl, rfl, rfl⟩
set_option maxRecDepth 100000 in
theorem ci_X3_76 {X : xG} {MI : Nat → Nat → Int32} {ML : Nat → Nat → Int64} {MR : Nat → Nat → Option Nat} (hOV : x_OV X) (hZ : Zr 77 MI ML MR) : Ct X yX3_init cX3_init 1 none 1 2 10 [.ref 76] 78 (SH.take 77) MI ML MR 80 (SH.take 79) (fun r MI' ML' MR' => r = none ∧ MI' = MI ∧ ML' = ML ∧ MR' = (u2 (u2 MR 76 0 (some 77)) 76 1 (some 78))) := by
  refine Ct_of (by decide) (Nat.le_of_ble_eq_true rfl) (fun G hG => ?_)
  have hmn : G.2.2.2.2.2.2.2.2.2.1 = "<init>" := x_GI_mn hG
  refine r_aload_n 0 rfl dX3_init_0 ?_
  refine r_obj dX3_init_1 ol_X3_3 (Nat.le_of_ble_eq_true rfl) (Nat.le_of_ble_eq_true rfl) ?_
  refine r_aload_n 0 rfl dX3_init_4 ?_
  refine r_iconst (v := 5) rfl dX3_init_5 ?_
  refine r_newa (k0 := 77) (kd := 14) (N := 5) dX3_init_6 rfl (by decide) na_long rfl ac_l (by decide) (by decide) (Nat.le_of_ble_eq_true rfl) (by repeat (first | exact hZ.w (Nat.le_of_ble_eq_true rfl) | refine Zr_r ?_ (Nat.le_of_ble_eq_true rfl) | refine Zr_s ?_ (Nat.le_of_ble_eq_true rfl) | refine Zr_i ?_ (Nat.le_of_ble_eq_true rfl) | refine Zr_kt ?_ (Nat.le_of_ble_eq_true rfl))) (Nat.le_of_ble_eq_true rfl) (Nat.le_of_ble_eq_true rfl) ?_
  refine r_putrF dX3_init_8 fl_X3_9 rfl rfl rfl hmn rfl ?_
  refine r_aload_n 0 rfl dX3_init_11 ?_
  refine r_iconst (v := 5) rfl dX3_init_12 ?_
  refine r_newa (k0 := 78) (kd := 14) (N := 5) dX3_init_13 rfl (by decide) na_long rfl ac_l (by decide) (by decide) (Nat.le_of_ble_eq_true rfl) (by repeat (first | exact hZ.w (Nat.le_of_ble_eq_true rfl) | refine Zr_r ?_ (Nat.le_of_ble_eq_true rfl) | refine Zr_s ?_ (Nat.le_of_ble_eq_true rfl) | refine Zr_i ?_ (Nat.le_of_ble_eq_true rfl) | refine Zr_kt ?_ (Nat.le_of_ble_eq_true rfl))) (Nat.le_of_ble_eq_true rfl) (Nat.le_of_ble_eq_true rfl) ?_
  refine r_putrF dX3_init_15 fl_X3_15 rfl rfl rfl hmn rfl ?_
  exact r_vret hG dX3_init_18 ⟨rfl, rfl, rfl, rfl⟩
set_option maxRecDepth 100000 in
theorem ci_X3_79 {X : xG} {MI : Nat → Nat → Int32} {ML : Nat → Nat → Int64} {MR : Nat → Nat → Option Nat} (hOV : x_OV X) (hZ : Zr 80 MI ML MR) : Ct X yX3_init cX3_init 1 none 1 2 10 [.ref 79] 81 (SH.take 80) MI ML MR 83 (SH.take 82) (fun r MI' ML' MR' => r = none ∧ MI' = MI ∧ ML' = ML ∧ MR' = (u2 (u2 MR 79 0 (some 80)) 79 1 (some 81))) := by
  refine Ct_of (by decide) (Nat.le_of_ble_eq_true rfl) (fun G hG => ?_)
  have hmn : G.2.2.2.2.2.2.2.2.2.1 = "<init>" := x_GI_mn hG
  refine r_aload_n 0 rfl dX3_init_0 ?_
  refine r_obj dX3_init_1 ol_X3_3 (Nat.le_of_ble_eq_true rfl) (Nat.le_of_ble_eq_true rfl) ?_
  refine r_aload_n 0 rfl dX3_init_4 ?_
  refine r_iconst (v := 5) rfl dX3_init_5 ?_
  refine r_newa (k0 := 80) (kd := 14) (N := 5) dX3_init_6 rfl (by decide) na_long rfl ac_l (by decide) (by decide) (Nat.le_of_ble_eq_true rfl) (by repeat (first | exact hZ.w (Nat.le_of_ble_eq_true rfl) | refine Zr_r ?_ (Nat.le_of_ble_eq_true rfl) | refine Zr_s ?_ (Nat.le_of_ble_eq_true rfl) | refine Zr_i ?_ (Nat.le_of_ble_eq_true rfl) | refine Zr_kt ?_ (Nat.le_of_ble_eq_true rfl))) (Nat.le_of_ble_eq_true rfl) (Nat.le_of_ble_eq_true rfl) ?_
  refine r_putrF dX3_init_8 fl_X3_9 rfl rfl rfl hmn rfl ?_
  refine r_aload_n 0 rfl dX3_init_11 ?_
  refine r_iconst (v := 5) rfl dX3_init_12 ?_
  refine r_newa (k0 := 81) (kd := 14) (N := 5) dX3_init_13 rfl (by decide) na_long rfl ac_l (by decide) (by decide) (Nat.le_of_ble_eq_true rfl) (by repeat (first | exact hZ.w (Nat.le_of_ble_eq_true rfl) | refine Zr_r ?_ (Nat.le_of_ble_eq_true rfl) | refine Zr_s ?_ (Nat.le_of_ble_eq_true rfl) | refine Zr_i ?_ (Nat.le_of_ble_eq_true rfl) | refine Zr_kt ?_ (Nat.le_of_ble_eq_true rfl))) (Nat.le_of_ble_eq_true rfl) (Nat.le_of_ble_eq_true rfl) ?_
  refine r_putrF dX3_init_15 fl_X3_15 rfl rfl rfl hmn rfl ?_
  exact r_vret hG dX3_init_18 ⟨rfl, rfl, rfl, rfl⟩
set_option maxRecDepth 100000 in
theorem ci_X3_82 {X : xG} {MI : Nat → Nat → Int32} {ML : Nat → Nat → Int64} {MR : Nat → Nat → Option Nat} (hOV : x_OV X) (hZ : Zr 83 MI ML MR) : Ct X yX3_init cX3_init 1 none 1 2 10 [.ref 82] 84 (SH.take 83) MI ML MR 86 (SH.take 85) (fun r MI' ML' MR' => r = none ∧ MI' = MI ∧ ML' = ML ∧ MR' = (u2 (u2 MR 82 0 (some 83)) 82 1 (some 84))) := by
  refine Ct_of (by decide) (Nat.le_of_ble_eq_true rfl) (fun G hG => ?_)
  have hmn : G.2.2.2.2.2.2.2.2.2.1 = "<init>" := x_GI_mn hG
  refine r_aload_n 0 rfl dX3_init_0 ?_
  refine r_obj dX3_init_1 ol_X3_3 (Nat.le_of_ble_eq_true rfl) (Nat.le_of_ble_eq_true rfl) ?_
  refine r_aload_n 0 rfl dX3_init_4 ?_
  refine r_iconst (v := 5) rfl dX3_init_5 ?_
  refine r_newa (k0 := 83) (kd := 14) (N := 5) dX3_init_6 rfl (by decide) na_long rfl ac_l (by decide) (by decide) (Nat.le_of_ble_eq_true rfl) (by repeat (first | exact hZ.w (Nat.le_of_ble_eq_true rfl) | refine Zr_r ?_ (Nat.le_of_ble_eq_true rfl) | refine Zr_s ?_ (Nat.le_of_ble_eq_true rfl) | refine Zr_i ?_ (Nat.le_of_ble_eq_true rfl) | refine Zr_kt ?_ (Nat.le_of_ble_eq_true rfl))) (Nat.le_of_ble_eq_true rfl) (Nat.le_of_ble_eq_true rfl) ?_
  refine r_putrF dX3_init_8 fl_X3_9 rfl rfl rfl hmn rfl ?_
  refine r_aload_n 0 rfl dX3_init_11 ?_
  refine r_iconst (v := 5) rfl dX3_init_12 ?_
  refine r_newa (k0 := 84) (kd := 14) (N := 5) dX3_init_13 rfl (by decide) na_long rfl ac_l (by decide) (by decide) (Nat.le_of_ble_eq_true rfl) (by repeat (first | exact hZ.w (Nat.le_of_ble_eq_true rfl) | refine Zr_r ?_ (Nat.le_of_ble_eq_true rfl) | refine Zr_s ?_ (Nat.le_of_ble_eq_true rfl) | refine Zr_i ?_ (Nat.le_of_ble_eq_true rfl) | refine Zr_kt ?_ (Nat.le_of_ble_eq_true rfl))) (Nat.le_of_ble_eq_true rfl) (Nat.le_of_ble_eq_true rfl) ?_
  refine r_putrF dX3_init_15 fl_X3_15 rfl rfl rfl hmn rfl ?_
  exact r_vret hG dX3_init_18 ⟨rfl, rfl, rfl, rfl⟩
set_option maxRecDepth 100000 in
theorem ci_X1_60 {X : xG} {MI : Nat → Nat → Int32} {ML : Nat → Nat → Int64} {MR : Nat → Nat → Option Nat} (hOV : x_OV X) (hZ : Zr 61 MI ML MR) : Ct X yX1_init cX1_init 3 none 2 24 103 [.ref 60, .ref 43] 62 (SH.take 61) MI ML MR 86 (SH.take 85) (fun r MI' ML' MR' => r = none ∧ MI' = MI ∧ ML' = ML ∧ MR' = (u2 (u2 (u2 (u2 (u2 (u2 (u2 (u2 (u2 (u2 (u2 (u2 (u2 (u2 (u2 (u2 (u2 (u2 (u2 (u2 (u2 (u2 (u2 (u2 (u2 MR 60 1 (some 61)) 60 2 (some 62)) 60 3 (some 63)) 60 0 (some 43)) 64 0 (some 65)) 64 1 (some 66)) 62 0 (some 64)) 67 0 (some 68)) 67 1 (some 69)) 62 1 (some 67)) 70 0 (some 71)) 70 1 (some 72)) 62 2 (some 70)) 73 0 (some 74)) 73 1 (some 75)) 62 3 (some 73)) 76 0 (some 77)) 76 1 (some 78)) 62 4 (some 76)) 79 0 (some 80)) 79 1 (some 81)) 62 5 (some 79)) 82 0 (some 83)) 82 1 (some 84)) 62 6 (some 82))) := by
  refine Ct_of (by decide) (Nat.le_of_ble_eq_true rfl) (fun G hG => ?_)
  have hmn : G.2.2.2.2.2.2.2.2.2.1 = "<init>" := x_GI_mn hG
  refine r_aload_n 0 rfl dX1_init_0 ?_
  refine r_obj dX1_init_1 ol_X1_3 (Nat.le_of_ble_eq_true rfl) (Nat.le_of_ble_eq_true rfl) ?_
  refine r_aload_n 0 rfl dX1_init_4 ?_
  refine r_bipush (v := 6) rfl dX1_init_5 ?_
  refine r_newa (k0 := 61) (kd := 13) (N := 6) dX1_init_7 rfl (by decide) na_int rfl (ac_i (by decide)) (by decide) (by decide) (Nat.le_of_ble_eq_true rfl) (by repeat (first | exact hZ.w (Nat.le_of_ble_eq_true rfl) | refine Zr_r ?_ (Nat.le_of_ble_eq_true rfl) | refine Zr_s ?_ (Nat.le_of_ble_eq_true rfl) | refine Zr_i ?_ (Nat.le_of_ble_eq_true rfl) | refine Zr_kt ?_ (Nat.le_of_ble_eq_true rfl))) (Nat.le_of_ble_eq_true rfl) (Nat.le_of_ble_eq_true rfl) ?_
  refine r_putrF dX1_init_9 fl_X1_9 rfl rfl rfl hmn rfl ?_
  refine r_aload_n 0 rfl dX1_init_12 ?_
  refine r_bipush (v := 7) rfl dX1_init_13 ?_
  refine r_anew (k0 := 62) (kd := 16) (N := 7) dX1_init_15 rfl (by decide) nl_X1_15 hOV.1 rfl (by decide) (by decide) (Nat.le_of_ble_eq_true rfl) (by repeat (first | exact hZ.w (Nat.le_of_ble_eq_true rfl) | refine Zr_r ?_ (Nat.le_of_ble_eq_true rfl) | refine Zr_s ?_ (Nat.le_of_ble_eq_true rfl) | refine Zr_i ?_ (Nat.le_of_ble_eq_true rfl) | refine Zr_kt ?_ (Nat.le_of_ble_eq_true rfl))) (Nat.le_of_ble_eq_true rfl) (Nat.le_of_ble_eq_true rfl) ?_
  refine r_putrF dX1_init_18 fl_X1_17 rfl rfl rfl hmn rfl ?_
  refine r_aload_n 0 rfl dX1_init_21 ?_
  refine r_bipush (v := 6) rfl dX1_init_22 ?_
  refine r_newa (k0 := 63) (kd := 13) (N := 6) dX1_init_24 rfl (by decide) na_int rfl (ac_i (by decide)) (by decide) (by decide) (Nat.le_of_ble_eq_true rfl) (by repeat (first | exact hZ.w (Nat.le_of_ble_eq_true rfl) | refine Zr_r ?_ (Nat.le_of_ble_eq_true rfl) | refine Zr_s ?_ (Nat.le_of_ble_eq_true rfl) | refine Zr_i ?_ (Nat.le_of_ble_eq_true rfl) | refine Zr_kt ?_ (Nat.le_of_ble_eq_true rfl))) (Nat.le_of_ble_eq_true rfl) (Nat.le_of_ble_eq_true rfl) ?_
  refine r_putrF dX1_init_26 fl_X1_21 rfl rfl rfl hmn rfl ?_
  refine r_aload_n 0 rfl dX1_init_29 ?_
  refine r_aload_n 1 rfl dX1_init_30 ?_
  refine r_putrF dX1_init_31 fl_X1_24 rfl rfl rfl hmn rfl ?_
  refine r_iconst (v := 0) rfl dX1_init_34 ?_
  refine r_istore_n (ls2 := [(2, .int 0), (0, .ref 60), (1, .ref 43)]) dX1_init_35 (by decide) rfl ?_
  refine r_iload_n 0 rfl dX1_init_36 ?_
  refine r_bipush (v := 6) rfl dX1_init_37 ?_
  refine r_icmpgt (tgt := 61) dX1_init_39 (by decide) (fun zh => ?_) (fun zh => ?_)
  · exact absurd zh (by decide)
  refine r_aload_n 1 rfl dX1_init_42 ?_
  refine r_getr (b := 62) dX1_init_43 fl_X1_17 rfl (by simp [u2, sr]) ?_
  refine r_iload_n 0 rfl dX1_init_46 ?_
  refine r_new (k0 := 64) dX1_init_47 rfl cl_3 (by decide) nl_X1_15 ni_X3 ii_X3 dv_3 (by repeat (first | exact hZ.w (Nat.le_of_ble_eq_true rfl) | refine Zr_r ?_ (Nat.le_of_ble_eq_true rfl) | refine Zr_s ?_ (Nat.le_of_ble_eq_true rfl) | refine Zr_i ?_ (Nat.le_of_ble_eq_true rfl) | refine Zr_kt ?_ (Nat.le_of_ble_eq_true rfl))) (Nat.le_of_ble_eq_true rfl) (Nat.le_of_ble_eq_true rfl) ?_
  refine r_dup rfl dX1_init_50 ?_
  refine r_callI (rt' := none) (a := 64) (as := []) dX1_init_51 lk_X1_28 mb_X3_init in_X3_init rfl (ci_X3_64 hOV (by repeat (first | exact hZ.w (Nat.le_of_ble_eq_true rfl) | refine Zr_r ?_ (Nat.le_of_ble_eq_true rfl) | refine Zr_s ?_ (Nat.le_of_ble_eq_true rfl) | refine Zr_i ?_ (Nat.le_of_ble_eq_true rfl) | refine Zr_kt ?_ (Nat.le_of_ble_eq_true rfl)))) rfl rfl (Nat.le_of_ble_eq_true rfl) rfl (fun zr zA zB zC zq => ?_)
  obtain ⟨rfl, rfl, rfl, rfl⟩ := zq
  refine r_aastO (kd := 16) (ci := 3) dX1_init_54 rfl (by decide) rfl (by decide) rfl rfl (vpk (k := 0) (by decide) (by decide) rfl) ?_
  refine r_iinc (v := 1) (ls2 := [(2, .int 1), (0, .ref 60), (1, .ref 43)]) 0 dX1_init_55 rfl (by decide) (by decide) rfl ?_
  refine r_goto (tgt := 36) dX1_init_58 (by decide) ?_
  refine r_iload_n 0 rfl dX1_init_36 ?_
  refine r_bipush (v := 6) rfl dX1_init_37 ?_
  refine r_icmpgt (tgt := 61) dX1_init_39 (by decide) (fun zh => ?_) (fun zh => ?_)
  · exact absurd zh (by decide)
  refine r_aload_n 1 rfl dX1_init_42 ?_
  refine r_getr (b := 62) dX1_init_43 fl_X1_17 rfl (by simp [u2, sr]) ?_
  refine r_iload_n 0 rfl dX1_init_46 ?_
  refine r_new (k0 := 67) dX1_init_47 rfl cl_3 (by decide) nl_X1_15 ni_X3 ii_X3 dv_3 (by repeat (first | exact hZ.w (Nat.le_of_ble_eq_true rfl) | refine Zr_r ?_ (Nat.le_of_ble_eq_true rfl) | refine Zr_s ?_ (Nat.le_of_ble_eq_true rfl) | refine Zr_i ?_ (Nat.le_of_ble_eq_true rfl) | refine Zr_kt ?_ (Nat.le_of_ble_eq_true rfl))) (Nat.le_of_ble_eq_true rfl) (Nat.le_of_ble_eq_true rfl) ?_
  refine r_dup rfl dX1_init_50 ?_
  refine r_callI (rt' := none) (a := 67) (as := []) dX1_init_51 lk_X1_28 mb_X3_init in_X3_init rfl (ci_X3_67 hOV (by repeat (first | exact hZ.w (Nat.le_of_ble_eq_true rfl) | refine Zr_r ?_ (Nat.le_of_ble_eq_true rfl) | refine Zr_s ?_ (Nat.le_of_ble_eq_true rfl) | refine Zr_i ?_ (Nat.le_of_ble_eq_true rfl) | refine Zr_kt ?_ (Nat.le_of_ble_eq_true rfl)))) rfl rfl (Nat.le_of_ble_eq_true rfl) rfl (fun zr zA zB zC zq => ?_)
  obtain ⟨rfl, rfl, rfl, rfl⟩ := zq
  refine r_aastO (kd := 16) (ci := 3) dX1_init_54 rfl (by decide) rfl (by decide) rfl rfl (vpk (k := 1) (by decide) (by decide) rfl) ?_
  refine r_iinc (v := 2) (ls2 := [(2, .int 2), (0, .ref 60), (1, .ref 43)]) 0 dX1_init_55 rfl (by decide) (by decide) rfl ?_
  refine r_goto (tgt := 36) dX1_init_58 (by decide) ?_
  refine r_iload_n 0 rfl dX1_init_36 ?_
  refine r_bipush (v := 6) rfl dX1_init_37 ?_
  refine r_icmpgt (tgt := 61) dX1_init_39 (by decide) (fun zh => ?_) (fun zh => ?_)
  · exact absurd zh (by decide)
  refine r_aload_n 1 rfl dX1_init_42 ?_
  refine r_getr (b := 62) dX1_init_43 fl_X1_17 rfl (by simp [u2, sr]) ?_
  refine r_iload_n 0 rfl dX1_init_46 ?_
  refine r_new (k0 := 70) dX1_init_47 rfl cl_3 (by decide) nl_X1_15 ni_X3 ii_X3 dv_3 (by repeat (first | exact hZ.w (Nat.le_of_ble_eq_true rfl) | refine Zr_r ?_ (Nat.le_of_ble_eq_true rfl) | refine Zr_s ?_ (Nat.le_of_ble_eq_true rfl) | refine Zr_i ?_ (Nat.le_of_ble_eq_true rfl) | refine Zr_kt ?_ (Nat.le_of_ble_eq_true rfl))) (Nat.le_of_ble_eq_true rfl) (Nat.le_of_ble_eq_true rfl) ?_
  refine r_dup rfl dX1_init_50 ?_
  refine r_callI (rt' := none) (a := 70) (as := []) dX1_init_51 lk_X1_28 mb_X3_init in_X3_init rfl (ci_X3_70 hOV (by repeat (first | exact hZ.w (Nat.le_of_ble_eq_true rfl) | refine Zr_r ?_ (Nat.le_of_ble_eq_true rfl) | refine Zr_s ?_ (Nat.le_of_ble_eq_true rfl) | refine Zr_i ?_ (Nat.le_of_ble_eq_true rfl) | refine Zr_kt ?_ (Nat.le_of_ble_eq_true rfl)))) rfl rfl (Nat.le_of_ble_eq_true rfl) rfl (fun zr zA zB zC zq => ?_)
  obtain ⟨rfl, rfl, rfl, rfl⟩ := zq
  refine r_aastO (kd := 16) (ci := 3) dX1_init_54 rfl (by decide) rfl (by decide) rfl rfl (vpk (k := 2) (by decide) (by decide) rfl) ?_
  refine r_iinc (v := 3) (ls2 := [(2, .int 3), (0, .ref 60), (1, .ref 43)]) 0 dX1_init_55 rfl (by decide) (by decide) rfl ?_
  refine r_goto (tgt := 36) dX1_init_58 (by decide) ?_
  refine r_iload_n 0 rfl dX1_init_36 ?_
  refine r_bipush (v := 6) rfl dX1_init_37 ?_
  refine r_icmpgt (tgt := 61) dX1_init_39 (by decide) (fun zh => ?_) (fun zh => ?_)
  · exact absurd zh (by decide)
  refine r_aload_n 1 rfl dX1_init_42 ?_
  refine r_getr (b := 62) dX1_init_43 fl_X1_17 rfl (by simp [u2, sr]) ?_
  refine r_iload_n 0 rfl dX1_init_46 ?_
  refine r_new (k0 := 73) dX1_init_47 rfl cl_3 (by decide) nl_X1_15 ni_X3 ii_X3 dv_3 (by repeat (first | exact hZ.w (Nat.le_of_ble_eq_true rfl) | refine Zr_r ?_ (Nat.le_of_ble_eq_true rfl) | refine Zr_s ?_ (Nat.le_of_ble_eq_true rfl) | refine Zr_i ?_ (Nat.le_of_ble_eq_true rfl) | refine Zr_kt ?_ (Nat.le_of_ble_eq_true rfl))) (Nat.le_of_ble_eq_true rfl) (Nat.le_of_ble_eq_true rfl) ?_
  refine r_dup rfl dX1_init_50 ?_
  refine r_callI (rt' := none) (a := 73) (as := []) dX1_init_51 lk_X1_28 mb_X3_init in_X3_init rfl (ci_X3_73 hOV (by repeat (first | exact hZ.w (Nat.le_of_ble_eq_true rfl) | refine Zr_r ?_ (Nat.le_of_ble_eq_true rfl) | refine Zr_s ?_ (Nat.le_of_ble_eq_true rfl) | refine Zr_i ?_ (Nat.le_of_ble_eq_true rfl) | refine Zr_kt ?_ (Nat.le_of_ble_eq_true rfl)))) rfl rfl (Nat.le_of_ble_eq_true rfl) rfl (fun zr zA zB zC zq => ?_)
  obtain ⟨rfl, rfl, rfl, rfl⟩ := zq
  refine r_aastO (kd := 16) (ci := 3) dX1_init_54 rfl (by decide) rfl (by decide) rfl rfl (vpk (k := 3) (by decide) (by decide) rfl) ?_
  refine r_iinc (v := 4) (ls2 := [(2, .int 4), (0, .ref 60), (1, .ref 43)]) 0 dX1_init_55 rfl (by decide) (by decide) rfl ?_
  refine r_goto (tgt := 36) dX1_init_58 (by decide) ?_
  refine r_iload_n 0 rfl dX1_init_36 ?_
  refine r_bipush (v := 6) rfl dX1_init_37 ?_
  refine r_icmpgt (tgt := 61) dX1_init_39 (by decide) (fun zh => ?_) (fun zh => ?_)
  · exact absurd zh (by decide)
  refine r_aload_n 1 rfl dX1_init_42 ?_
  refine r_getr (b := 62) dX1_init_43 fl_X1_17 rfl (by simp [u2, sr]) ?_
  refine r_iload_n 0 rfl dX1_init_46 ?_
  refine r_new (k0 := 76) dX1_init_47 rfl cl_3 (by decide) nl_X1_15 ni_X3 ii_X3 dv_3 (by repeat (first | exact hZ.w (Nat.le_of_ble_eq_true rfl) | refine Zr_r ?_ (Nat.le_of_ble_eq_true rfl) | refine Zr_s ?_ (Nat.le_of_ble_eq_true rfl) | refine Zr_i ?_ (Nat.le_of_ble_eq_true rfl) | refine Zr_kt ?_ (Nat.le_of_ble_eq_true rfl))) (Nat.le_of_ble_eq_true rfl) (Nat.le_of_ble_eq_true rfl) ?_
  refine r_dup rfl dX1_init_50 ?_
  refine r_callI (rt' := none) (a := 76) (as := []) dX1_init_51 lk_X1_28 mb_X3_init in_X3_init rfl (ci_X3_76 hOV (by repeat (first | exact hZ.w (Nat.le_of_ble_eq_true rfl) | refine Zr_r ?_ (Nat.le_of_ble_eq_true rfl) | refine Zr_s ?_ (Nat.le_of_ble_eq_true rfl) | refine Zr_i ?_ (Nat.le_of_ble_eq_true rfl) | refine Zr_kt ?_ (Nat.le_of_ble_eq_true rfl)))) rfl rfl (Nat.le_of_ble_eq_true rfl) rfl (fun zr zA zB zC zq => ?_)
  obtain ⟨rfl, rfl, rfl, rfl⟩ := zq
  refine r_aastO (kd := 16) (ci := 3) dX1_init_54 rfl (by decide) rfl (by decide) rfl rfl (vpk (k := 4) (by decide) (by decide) rfl) ?_
  refine r_iinc (v := 5) (ls2 := [(2, .int 5), (0, .ref 60), (1, .ref 43)]) 0 dX1_init_55 rfl (by decide) (by decide) rfl ?_
  refine r_goto (tgt := 36) dX1_init_58 (by decide) ?_
  refine r_iload_n 0 rfl dX1_init_36 ?_
  refine r_bipush (v := 6) rfl dX1_init_37 ?_
  refine r_icmpgt (tgt := 61) dX1_init_39 (by decide) (fun zh => ?_) (fun zh => ?_)
  · exact absurd zh (by decide)
  refine r_aload_n 1 rfl dX1_init_42 ?_
  refine r_getr (b := 62) dX1_init_43 fl_X1_17 rfl (by simp [u2, sr]) ?_
  refine r_iload_n 0 rfl dX1_init_46 ?_
  refine r_new (k0 := 79) dX1_init_47 rfl cl_3 (by decide) nl_X1_15 ni_X3 ii_X3 dv_3 (by repeat (first | exact hZ.w (Nat.le_of_ble_eq_true rfl) | refine Zr_r ?_ (Nat.le_of_ble_eq_true rfl) | refine Zr_s ?_ (Nat.le_of_ble_eq_true rfl) | refine Zr_i ?_ (Nat.le_of_ble_eq_true rfl) | refine Zr_kt ?_ (Nat.le_of_ble_eq_true rfl))) (Nat.le_of_ble_eq_true rfl) (Nat.le_of_ble_eq_true rfl) ?_
  refine r_dup rfl dX1_init_50 ?_
  refine r_callI (rt' := none) (a := 79) (as := []) dX1_init_51 lk_X1_28 mb_X3_init in_X3_init rfl (ci_X3_79 hOV (by repeat (first | exact hZ.w (Nat.le_of_ble_eq_true rfl) | refine Zr_r ?_ (Nat.le_of_ble_eq_true rfl) | refine Zr_s ?_ (Nat.le_of_ble_eq_true rfl) | refine Zr_i ?_ (Nat.le_of_ble_eq_true rfl) | refine Zr_kt ?_ (Nat.le_of_ble_eq_true rfl)))) rfl rfl (Nat.le_of_ble_eq_true rfl) rfl (fun zr zA zB zC zq => ?_)
  obtain ⟨rfl, rfl, rfl, rfl⟩ := zq
  refine r_aastO (kd := 16) (ci := 3) dX1_init_54 rfl (by decide) rfl (by decide) rfl rfl (vpk (k := 5) (by decide) (by decide) rfl) ?_
  refine r_iinc (v := 6) (ls2 := [(2, .int 6), (0, .ref 60), (1, .ref 43)]) 0 dX1_init_55 rfl (by decide) (by decide) rfl ?_
  refine r_goto (tgt := 36) dX1_init_58 (by decide) ?_
  refine r_iload_n 0 rfl dX1_init_36 ?_
  refine r_bipush (v := 6) rfl dX1_init_37 ?_
  refine r_icmpgt (tgt := 61) dX1_init_39 (by decide) (fun zh => ?_) (fun zh => ?_)
  · exact absurd zh (by decide)
  refine r_aload_n 1 rfl dX1_init_42 ?_
  refine r_getr (b := 62) dX1_init_43 fl_X1_17 rfl (by simp [u2, sr]) ?_
  refine r_iload_n 0 rfl dX1_init_46 ?_
  refine r_new (k0 := 82) dX1_init_47 rfl cl_3 (by decide) nl_X1_15 ni_X3 ii_X3 dv_3 (by repeat (first | exact hZ.w (Nat.le_of_ble_eq_true rfl) | refine Zr_r ?_ (Nat.le_of_ble_eq_true rfl) | refine Zr_s ?_ (Nat.le_of_ble_eq_true rfl) | refine Zr_i ?_ (Nat.le_of_ble_eq_true rfl) | refine Zr_kt ?_ (Nat.le_of_ble_eq_true rfl))) (Nat.le_of_ble_eq_true rfl) (Nat.le_of_ble_eq_true rfl) ?_
  refine r_dup rfl dX1_init_50 ?_
  refine r_callI (rt' := none) (a := 82) (as := []) dX1_init_51 lk_X1_28 mb_X3_init in_X3_init rfl (ci_X3_82 hOV (by repeat (first | exact hZ.w (Nat.le_of_ble_eq_true rfl) | refine Zr_r ?_ (Nat.le_of_ble_eq_true rfl) | refine Zr_s ?_ (Nat.le_of_ble_eq_true rfl) | refine Zr_i ?_ (Nat.le_of_ble_eq_true rfl) | refine Zr_kt ?_ (Nat.le_of_ble_eq_true rfl)))) rfl rfl (Nat.le_of_ble_eq_true rfl) rfl (fun zr zA zB zC zq => ?_)
  obtain ⟨rfl, rfl, rfl, rfl⟩ := zq
  refine r_aastO (kd := 16) (ci := 3) dX1_init_54 rfl (by decide) rfl (by decide) rfl rfl (vpk (k := 6) (by decide) (by decide) rfl) ?_
  refine r_iinc (v := 7) (ls2 := [(2, .int 7), (0, .ref 60), (1, .ref 43)]) 0 dX1_init_55 rfl (by decide) (by decide) rfl ?_
  refine r_goto (tgt := 36) dX1_init_58 (by decide) ?_
  refine r_iload_n 0 rfl dX1_init_36 ?_
  refine r_bipush (v := 6) rfl dX1_init_37 ?_
  refine r_icmpgt (tgt := 61) dX1_init_39 (by decide) (fun zh => ?_) (fun zh => ?_)
  rotate_left
  · exact absurd zh (by decide)
  exact r_vret hG dX1_init_61 ⟨rfl, rfl, rfl, rfl⟩
set_option maxRecDepth 100000 in
theorem ci_X9_85 {X : xG} {MI : Nat → Nat → Int32} {ML : Nat → Nat → Int64} {MR : Nat → Nat → Option Nat} (hOV : x_OV X) (hZ : Zr 86 MI ML MR) : Ct X yX9_init cX9_init 2 none 1 0 0 [.ref 85, .ref 43] 87 (SH.take 86) MI ML MR 87 (SH.take 86) (fun r MI' ML' MR' => r = none ∧ MI' = MI ∧ ML' = ML ∧ MR' = (u2 MR 85 0 (some 43))) := by
  refine Ct_of (by decide) (Nat.le_of_ble_eq_true rfl) (fun G hG => ?_)
  have hmn : G.2.2.2.2.2.2.2.2.2.1 = "<init>" := x_GI_mn hG
  refine r_aload_n 0 rfl dX9_init_0 ?_
  refine r_obj dX9_init_1 ol_X9_1 (Nat.le_of_ble_eq_true rfl) (Nat.le_of_ble_eq_true rfl) ?_
  refine r_aload_n 0 rfl dX9_init_4 ?_
  refine r_aload_n 1 rfl dX9_init_5 ?_
  refine r_putrF dX9_init_6 fl_X9_7 rfl rfl rfl hmn rfl ?_
  exact r_vret hG dX9_init_9 ⟨rfl, rfl, rfl, rfl⟩
set_option maxRecDepth 100000 in
theorem ci_X4_86 {X : xG} {MI : Nat → Nat → Int32} {ML : Nat → Nat → Int64} {MR : Nat → Nat → Option Nat} (hOV : x_OV X) (hZ : Zr 87 MI ML MR) : Ct X yX4_init cX4_init 1 none 1 2 273 [.ref 86] 88 (SH.take 87) MI ML MR 90 (SH.take 89) (fun r MI' ML' MR' => r = none ∧ MI' = MI ∧ ML' = ML ∧ MR' = (u2 (u2 MR 86 0 (some 87)) 86 3 (some 88))) := by
  refine Ct_of (by decide) (Nat.le_of_ble_eq_true rfl) (fun G hG => ?_)
  have hmn : G.2.2.2.2.2.2.2.2.2.1 = "<init>" := x_GI_mn hG
  refine r_aload_n 0 rfl dX4_init_0 ?_
  refine r_obj dX4_init_1 ol_X4_3 (Nat.le_of_ble_eq_true rfl) (Nat.le_of_ble_eq_true rfl) ?_
  refine r_aload_n 0 rfl dX4_init_4 ?_
  refine r_sipush (v := 240) rfl dX4_init_5 ?_
  refine r_newa (k0 := 87) (kd := 14) (N := 240) dX4_init_8 rfl (by decide) na_long rfl ac_l (by decide) (by decide) (Nat.le_of_ble_eq_true rfl) (by repeat (first | exact hZ.w (Nat.le_of_ble_eq_true rfl) | refine Zr_r ?_ (Nat.le_of_ble_eq_true rfl) | refine Zr_s ?_ (Nat.le_of_ble_eq_true rfl) | refine Zr_i ?_ (Nat.le_of_ble_eq_true rfl) | refine Zr_kt ?_ (Nat.le_of_ble_eq_true rfl))) (Nat.le_of_ble_eq_true rfl) (Nat.le_of_ble_eq_true rfl) ?_
  refine r_putrF dX4_init_10 fl_X4_11 rfl rfl rfl hmn rfl ?_
  refine r_aload_n 0 rfl dX4_init_13 ?_
  refine r_bipush (v := 33) rfl dX4_init_14 ?_
  refine r_newa (k0 := 88) (kd := 14) (N := 33) dX4_init_16 rfl (by decide) na_long rfl ac_l (by decide) (by decide) (Nat.le_of_ble_eq_true rfl) (by repeat (first | exact hZ.w (Nat.le_of_ble_eq_true rfl) | refine Zr_r ?_ (Nat.le_of_ble_eq_true rfl) | refine Zr_s ?_ (Nat.le_of_ble_eq_true rfl) | refine Zr_i ?_ (Nat.le_of_ble_eq_true rfl) | refine Zr_kt ?_ (Nat.le_of_ble_eq_true rfl))) (Nat.le_of_ble_eq_true rfl) (Nat.le_of_ble_eq_true rfl) ?_
  refine r_putrF dX4_init_18 fl_X4_17 rfl rfl rfl hmn rfl ?_
  exact r_vret hG dX4_init_21 ⟨rfl, rfl, rfl, rfl⟩
set_option maxRecDepth 100000 in
theorem ci_X7_89 {X : xG} {MI : Nat → Nat → Int32} {ML : Nat → Nat → Int64} {MR : Nat → Nat → Option Nat} (hOV : x_OV X) (hZ : Zr 90 MI ML MR) : Ct X yX7_init cX7_init 5 none 1 6 358 [.ref 89, .int 0, .ref 43, .ref 57, .ref 86] 91 (SH.take 90) MI ML MR 97 (SH.take 96) (fun r MI' ML' MR' => r = none ∧ MI' = (u2 MI 89 0 0) ∧ ML' = ML ∧ MR' = (u2 (u2 (u2 (u2 (u2 (u2 (u2 (u2 (u2 MR 89 5 (some 90)) 89 7 (some 91)) 89 8 (some 92)) 89 10 (some 93)) 89 12 (some 94)) 89 17 (some 95)) 89 1 (some 43)) 89 2 (some 57)) 89 3 (some 86))) := by
  refine Ct_of (by decide) (Nat.le_of_ble_eq_true rfl) (fun G hG => ?_)
  have hmn : G.2.2.2.2.2.2.2.2.2.1 = "<init>" := x_GI_mn hG
  refine r_aload_n 0 rfl dX7_init_0 ?_
  refine r_obj dX7_init_1 ol_X7_3 (Nat.le_of_ble_eq_true rfl) (Nat.le_of_ble_eq_true rfl) ?_
  refine r_aload_n 0 rfl dX7_init_4 ?_
  refine r_bipush (v := 33) rfl dX7_init_5 ?_
  refine r_newa (k0 := 90) (kd := 13) (N := 33) dX7_init_7 rfl (by decide) na_int rfl (ac_i (by decide)) (by decide) (by decide) (Nat.le_of_ble_eq_true rfl) (by repeat (first | exact hZ.w (Nat.le_of_ble_eq_true rfl) | refine Zr_r ?_ (Nat.le_of_ble_eq_true rfl) | refine Zr_s ?_ (Nat.le_of_ble_eq_true rfl) | refine Zr_i ?_ (Nat.le_of_ble_eq_true rfl) | refine Zr_kt ?_ (Nat.le_of_ble_eq_true rfl))) (Nat.le_of_ble_eq_true rfl) (Nat.le_of_ble_eq_true rfl) ?_
  refine r_putrF dX7_init_9 fl_X7_11 rfl rfl rfl hmn rfl ?_
  refine r_aload_n 0 rfl dX7_init_12 ?_
  refine r_bipush (v := 8) rfl dX7_init_13 ?_
  refine r_newa (k0 := 91) (kd := 14) (N := 8) dX7_init_15 rfl (by decide) na_long rfl ac_l (by decide) (by decide) (Nat.le_of_ble_eq_true rfl) (by repeat (first | exact hZ.w (Nat.le_of_ble_eq_true rfl) | refine Zr_r ?_ (Nat.le_of_ble_eq_true rfl) | refine Zr_s ?_ (Nat.le_of_ble_eq_true rfl) | refine Zr_i ?_ (Nat.le_of_ble_eq_true rfl) | refine Zr_kt ?_ (Nat.le_of_ble_eq_true rfl))) (Nat.le_of_ble_eq_true rfl) (Nat.le_of_ble_eq_true rfl) ?_
  refine r_putrF dX7_init_17 fl_X7_15 rfl rfl rfl hmn rfl ?_
  refine r_aload_n 0 rfl dX7_init_20 ?_
  refine r_bipush (v := 8) rfl dX7_init_21 ?_
  refine r_newa (k0 := 92) (kd := 14) (N := 8) dX7_init_23 rfl (by decide) na_long rfl ac_l (by decide) (by decide) (Nat.le_of_ble_eq_true rfl) (by repeat (first | exact hZ.w (Nat.le_of_ble_eq_true rfl) | refine Zr_r ?_ (Nat.le_of_ble_eq_true rfl) | refine Zr_s ?_ (Nat.le_of_ble_eq_true rfl) | refine Zr_i ?_ (Nat.le_of_ble_eq_true rfl) | refine Zr_kt ?_ (Nat.le_of_ble_eq_true rfl))) (Nat.le_of_ble_eq_true rfl) (Nat.le_of_ble_eq_true rfl) ?_
  refine r_putrF dX7_init_25 fl_X7_19 rfl rfl rfl hmn rfl ?_
  refine r_aload_n 0 rfl dX7_init_28 ?_
  refine r_sipush (v := 240) rfl dX7_init_29 ?_
  refine r_newa (k0 := 93) (kd := 13) (N := 240) dX7_init_32 rfl (by decide) na_int rfl (ac_i (by decide)) (by decide) (by decide) (Nat.le_of_ble_eq_true rfl) (by repeat (first | exact hZ.w (Nat.le_of_ble_eq_true rfl) | refine Zr_r ?_ (Nat.le_of_ble_eq_true rfl) | refine Zr_s ?_ (Nat.le_of_ble_eq_true rfl) | refine Zr_i ?_ (Nat.le_of_ble_eq_true rfl) | refine Zr_kt ?_ (Nat.le_of_ble_eq_true rfl))) (Nat.le_of_ble_eq_true rfl) (Nat.le_of_ble_eq_true rfl) ?_
  refine r_putrF dX7_init_34 fl_X7_22 rfl rfl rfl hmn rfl ?_
  refine r_aload_n 0 rfl dX7_init_37 ?_
  refine r_iconst (v := 5) rfl dX7_init_38 ?_
  refine r_newa (k0 := 94) (kd := 13) (N := 5) dX7_init_39 rfl (by decide) na_int rfl (ac_i (by decide)) (by decide) (by decide) (Nat.le_of_ble_eq_true rfl) (by repeat (first | exact hZ.w (Nat.le_of_ble_eq_true rfl) | refine Zr_r ?_ (Nat.le_of_ble_eq_true rfl) | refine Zr_s ?_ (Nat.le_of_ble_eq_true rfl) | refine Zr_i ?_ (Nat.le_of_ble_eq_true rfl) | refine Zr_kt ?_ (Nat.le_of_ble_eq_true rfl))) (Nat.le_of_ble_eq_true rfl) (Nat.le_of_ble_eq_true rfl) ?_
  refine r_putrF dX7_init_41 fl_X7_27 rfl rfl rfl hmn rfl ?_
  refine r_aload_n 0 rfl dX7_init_44 ?_
  refine r_bipush (v := 64) rfl dX7_init_45 ?_
  refine r_newa (k0 := 95) (kd := 13) (N := 64) dX7_init_47 rfl (by decide) na_int rfl (ac_i (by decide)) (by decide) (by decide) (Nat.le_of_ble_eq_true rfl) (by repeat (first | exact hZ.w (Nat.le_of_ble_eq_true rfl) | refine Zr_r ?_ (Nat.le_of_ble_eq_true rfl) | refine Zr_s ?_ (Nat.le_of_ble_eq_true rfl) | refine Zr_i ?_ (Nat.le_of_ble_eq_true rfl) | refine Zr_kt ?_ (Nat.le_of_ble_eq_true rfl))) (Nat.le_of_ble_eq_true rfl) (Nat.le_of_ble_eq_true rfl) ?_
  refine r_putrF dX7_init_49 fl_X7_30 rfl rfl rfl hmn rfl ?_
  refine r_aload_n 0 rfl dX7_init_52 ?_
  refine r_iload_n 1 rfl dX7_init_53 ?_
  refine r_putiF dX7_init_54 fl_X7_33 rfl rfl rfl hmn rfl ?_
  refine r_aload_n 0 rfl dX7_init_57 ?_
  refine r_aload_n 2 rfl dX7_init_58 ?_
  refine r_putrF dX7_init_59 fl_X7_37 rfl rfl rfl hmn rfl ?_
  refine r_aload_n 0 rfl dX7_init_62 ?_
  refine r_aload_n 3 rfl dX7_init_63 ?_
  refine r_putrF dX7_init_64 fl_X7_41 rfl rfl rfl hmn rfl ?_
  refine r_aload_n 0 rfl dX7_init_67 ?_
  refine r_aload 4 rfl dX7_init_68 ?_
  refine r_putrF dX7_init_70 fl_X7_45 rfl rfl rfl hmn rfl ?_
  exact r_vret hG dX7_init_73 ⟨rfl, rfl, rfl, rfl⟩
set_option maxRecDepth 100000 in
theorem ci_X7_96 {X : xG} {MI : Nat → Nat → Int32} {ML : Nat → Nat → Int64} {MR : Nat → Nat → Option Nat} (hOV : x_OV X) (hZ : Zr 97 MI ML MR) : Ct X yX7_init cX7_init 5 none 1 6 358 [.ref 96, .int 1, .ref 43, .ref 57, .ref 86] 98 (SH.take 97) MI ML MR 104 (SH.take 103) (fun r MI' ML' MR' => r = none ∧ MI' = (u2 MI 96 0 1) ∧ ML' = ML ∧ MR' = (u2 (u2 (u2 (u2 (u2 (u2 (u2 (u2 (u2 MR 96 5 (some 97)) 96 7 (some 98)) 96 8 (some 99)) 96 10 (some 100)) 96 12 (some 101)) 96 17 (some 102)) 96 1 (some 43)) 96 2 (some 57)) 96 3 (some 86))) := by
  refine Ct_of (by decide) (Nat.le_of_ble_eq_true rfl) (fun G hG => ?_)
  have hmn : G.2.2.2.2.2.2.2.2.2.1 = "<init>" := x_GI_mn hG
  refine r_aload_n 0 rfl dX7_init_0 ?_
  refine r_obj dX7_init_1 ol_X7_3 (Nat.le_of_ble_eq_true rfl) (Nat.le_of_ble_eq_true rfl) ?_
  refine r_aload_n 0 rfl dX7_init_4 ?_
  refine r_bipush (v := 33) rfl dX7_init_5 ?_
  refine r_newa (k0 := 97) (kd := 13) (N := 33) dX7_init_7 rfl (by decide) na_int rfl (ac_i (by decide)) (by decide) (by decide) (Nat.le_of_ble_eq_true rfl) (by repeat (first | exact hZ.w (Nat.le_of_ble_eq_true rfl) | refine Zr_r ?_ (Nat.le_of_ble_eq_true rfl) | refine Zr_s ?_ (Nat.le_of_ble_eq_true rfl) | refine Zr_i ?_ (Nat.le_of_ble_eq_true rfl) | refine Zr_kt ?_ (Nat.le_of_ble_eq_true rfl))) (Nat.le_of_ble_eq_true rfl) (Nat.le_of_ble_eq_true rfl) ?_
  refine r_putrF dX7_init_9 fl_X7_11 rfl rfl rfl hmn rfl ?_
  refine r_aload_n 0 rfl dX7_init_12 ?_
  refine r_bipush (v := 8) rfl dX7_init_13 ?_
  refine r_newa (k0 := 98) (kd := 14) (N := 8) dX7_init_15 rfl (by decide) na_long rfl ac_l (by decide) (by decide) (Nat.le_of_ble_eq_true rfl) (by repeat (first | exact hZ.w (Nat.le_of_ble_eq_true rfl) | refine Zr_r ?_ (Nat.le_of_ble_eq_true rfl) | refine Zr_s ?_ (Nat.le_of_ble_eq_true rfl) | refine Zr_i ?_ (Nat.le_of_ble_eq_true rfl) | refine Zr_kt ?_ (Nat.le_of_ble_eq_true rfl))) (Nat.le_of_ble_eq_true rfl) (Nat.le_of_ble_eq_true rfl) ?_
  refine r_putrF dX7_init_17 fl_X7_15 rfl rfl rfl hmn rfl ?_
  refine r_aload_n 0 rfl dX7_init_20 ?_
  refine r_bipush (v := 8) rfl dX7_init_21 ?_
  refine r_newa (k0 := 99) (kd := 14) (N := 8) dX7_init_23 rfl (by decide) na_long rfl ac_l (by decide) (by decide) (Nat.le_of_ble_eq_true rfl) (by repeat (first | exact hZ.w (Nat.le_of_ble_eq_true rfl) | refine Zr_r ?_ (Nat.le_of_ble_eq_true rfl) | refine Zr_s ?_ (Nat.le_of_ble_eq_true rfl) | refine Zr_i ?_ (Nat.le_of_ble_eq_true rfl) | refine Zr_kt ?_ (Nat.le_of_ble_eq_true rfl))) (Nat.le_of_ble_eq_true rfl) (Nat.le_of_ble_eq_true rfl) ?_
  refine r_putrF dX7_init_25 fl_X7_19 rfl rfl rfl hmn rfl ?_
  refine r_aload_n 0 rfl dX7_init_28 ?_
  refine r_sipush (v := 240) rfl dX7_init_29 ?_
  refine r_newa (k0 := 100) (kd := 13) (N := 240) dX7_init_32 rfl (by decide) na_int rfl (ac_i (by decide)) (by decide) (by decide) (Nat.le_of_ble_eq_true rfl) (by repeat (first | exact hZ.w (Nat.le_of_ble_eq_true rfl) | refine Zr_r ?_ (Nat.le_of_ble_eq_true rfl) | refine Zr_s ?_ (Nat.le_of_ble_eq_true rfl) | refine Zr_i ?_ (Nat.le_of_ble_eq_true rfl) | refine Zr_kt ?_ (Nat.le_of_ble_eq_true rfl))) (Nat.le_of_ble_eq_true rfl) (Nat.le_of_ble_eq_true rfl) ?_
  refine r_putrF dX7_init_34 fl_X7_22 rfl rfl rfl hmn rfl ?_
  refine r_aload_n 0 rfl dX7_init_37 ?_
  refine r_iconst (v := 5) rfl dX7_init_38 ?_
  refine r_newa (k0 := 101) (kd := 13) (N := 5) dX7_init_39 rfl (by decide) na_int rfl (ac_i (by decide)) (by decide) (by decide) (Nat.le_of_ble_eq_true rfl) (by repeat (first | exact hZ.w (Nat.le_of_ble_eq_true rfl) | refine Zr_r ?_ (Nat.le_of_ble_eq_true rfl) | refine Zr_s ?_ (Nat.le_of_ble_eq_true rfl) | refine Zr_i ?_ (Nat.le_of_ble_eq_true rfl) | refine Zr_kt ?_ (Nat.le_of_ble_eq_true rfl))) (Nat.le_of_ble_eq_true rfl) (Nat.le_of_ble_eq_true rfl) ?_
  refine r_putrF dX7_init_41 fl_X7_27 rfl rfl rfl hmn rfl ?_
  refine r_aload_n 0 rfl dX7_init_44 ?_
  refine r_bipush (v := 64) rfl dX7_init_45 ?_
  refine r_newa (k0 := 102) (kd := 13) (N := 64) dX7_init_47 rfl (by decide) na_int rfl (ac_i (by decide)) (by decide) (by decide) (Nat.le_of_ble_eq_true rfl) (by repeat (first | exact hZ.w (Nat.le_of_ble_eq_true rfl) | refine Zr_r ?_ (Nat.le_of_ble_eq_true rfl) | refine Zr_s ?_ (Nat.le_of_ble_eq_true rfl) | refine Zr_i ?_ (Nat.le_of_ble_eq_true rfl) | refine Zr_kt ?_ (Nat.le_of_ble_eq_true rfl))) (Nat.le_of_ble_eq_true rfl) (Nat.le_of_ble_eq_true rfl) ?_
  refine r_putrF dX7_init_49 fl_X7_30 rfl rfl rfl hmn rfl ?_
  refine r_aload_n 0 rfl dX7_init_52 ?_
  refine r_iload_n 1 rfl dX7_init_53 ?_
  refine r_putiF dX7_init_54 fl_X7_33 rfl rfl rfl hmn rfl ?_
  refine r_aload_n 0 rfl dX7_init_57 ?_
  refine r_aload_n 2 rfl dX7_init_58 ?_
  refine r_putrF dX7_init_59 fl_X7_37 rfl rfl rfl hmn rfl ?_
  refine r_aload_n 0 rfl dX7_init_62 ?_
  refine r_aload_n 3 rfl dX7_init_63 ?_
  refine r_putrF dX7_init_64 fl_X7_41 rfl rfl rfl hmn rfl ?_
  refine r_aload_n 0 rfl dX7_init_67 ?_
  refine r_aload 4 rfl dX7_init_68 ?_
  refine r_putrF dX7_init_70 fl_X7_45 rfl rfl rfl hmn rfl ?_
  exact r_vret hG dX7_init_73 ⟨rfl, rfl, rfl, rfl⟩
set_option maxRecDepth 100000 in
theorem ci_X7_103 {X : xG} {MI : Nat → Nat → Int32} {ML : Nat → Nat → Int64} {MR : Nat → Nat → Option Nat} (hOV : x_OV X) (hZ : Zr 104 MI ML MR) : Ct X yX7_init cX7_init 5 none 1 6 358 [.ref 103, .int 2, .ref 43, .ref 57, .ref 86] 105 (SH.take 104) MI ML MR 111 (SH.take 110) (fun r MI' ML' MR' => r = none ∧ MI' = (u2 MI 103 0 2) ∧ ML' = ML ∧ MR' = (u2 (u2 (u2 (u2 (u2 (u2 (u2 (u2 (u2 MR 103 5 (some 104)) 103 7 (some 105)) 103 8 (some 106)) 103 10 (some 107)) 103 12 (some 108)) 103 17 (some 109)) 103 1 (some 43)) 103 2 (some 57)) 103 3 (some 86))) := by
  refine Ct_of (by decide) (Nat.le_of_ble_eq_true rfl) (fun G hG => ?_)
  have hmn : G.2.2.2.2.2.2.2.2.2.1 = "<init>" := x_GI_mn hG
  refine r_aload_n 0 rfl dX7_init_0 ?_
  refine r_obj dX7_init_1 ol_X7_3 (Nat.le_of_ble_eq_true rfl) (Nat.le_of_ble_eq_true rfl) ?_
  refine r_aload_n 0 rfl dX7_init_4 ?_
  refine r_bipush (v := 33) rfl dX7_init_5 ?_
  refine r_newa (k0 := 104) (kd := 13) (N := 33) dX7_init_7 rfl (by decide) na_int rfl (ac_i (by decide)) (by decide) (by decide) (Nat.le_of_ble_eq_true rfl) (by repeat (first | exact hZ.w (Nat.le_of_ble_eq_true rfl) | refine Zr_r ?_ (Nat.le_of_ble_eq_true rfl) | refine Zr_s ?_ (Nat.le_of_ble_eq_true rfl) | refine Zr_i ?_ (Nat.le_of_ble_eq_true rfl) | refine Zr_kt ?_ (Nat.le_of_ble_eq_true rfl))) (Nat.le_of_ble_eq_true rfl) (Nat.le_of_ble_eq_true rfl) ?_
  refine r_putrF dX7_init_9 fl_X7_11 rfl rfl rfl hmn rfl ?_
  refine r_aload_n 0 rfl dX7_init_12 ?_
  refine r_bipush (v := 8) rfl dX7_init_13 ?_
  refine r_newa (k0 := 105) (kd := 14) (N := 8) dX7_init_15 rfl (by decide) na_long rfl ac_l (by decide) (by decide) (Nat.le_of_ble_eq_true rfl) (by repeat (first | exact hZ.w (Nat.le_of_ble_eq_true rfl) | refine Zr_r ?_ (Nat.le_of_ble_eq_true rfl) | refine Zr_s ?_ (Nat.le_of_ble_eq_true rfl) | refine Zr_i ?_ (Nat.le_of_ble_eq_true rfl) | refine Zr_kt ?_ (Nat.le_of_ble_eq_true rfl))) (Nat.le_of_ble_eq_true rfl) (Nat.le_of_ble_eq_true rfl) ?_
  refine r_putrF dX7_init_17 fl_X7_15 rfl rfl rfl hmn rfl ?_
  refine r_aload_n 0 rfl dX7_init_20 ?_
  refine r_bipush (v := 8) rfl dX7_init_21 ?_
  refine r_newa (k0 := 106) (kd := 14) (N := 8) dX7_init_23 rfl (by decide) na_long rfl ac_l (by decide) (by decide) (Nat.le_of_ble_eq_true rfl) (by repeat (first | exact hZ.w (Nat.le_of_ble_eq_true rfl) | refine Zr_r ?_ (Nat.le_of_ble_eq_true rfl) | refine Zr_s ?_ (Nat.le_of_ble_eq_true rfl) | refine Zr_i ?_ (Nat.le_of_ble_eq_true rfl) | refine Zr_kt ?_ (Nat.le_of_ble_eq_true rfl))) (Nat.le_of_ble_eq_true rfl) (Nat.le_of_ble_eq_true rfl) ?_
  refine r_putrF dX7_init_25 fl_X7_19 rfl rfl rfl hmn rfl ?_
  refine r_aload_n 0 rfl dX7_init_28 ?_
  refine r_sipush (v := 240) rfl dX7_init_29 ?_
  refine r_newa (k0 := 107) (kd := 13) (N := 240) dX7_init_32 rfl (by decide) na_int rfl (ac_i (by decide)) (by decide) (by decide) (Nat.le_of_ble_eq_true rfl) (by repeat (first | exact hZ.w (Nat.le_of_ble_eq_true rfl) | refine Zr_r ?_ (Nat.le_of_ble_eq_true rfl) | refine Zr_s ?_ (Nat.le_of_ble_eq_true rfl) | refine Zr_i ?_ (Nat.le_of_ble_eq_true rfl) | refine Zr_kt ?_ (Nat.le_of_ble_eq_true rfl))) (Nat.le_of_ble_eq_true rfl) (Nat.le_of_ble_eq_true rfl) ?_
  refine r_putrF dX7_init_34 fl_X7_22 rfl rfl rfl hmn rfl ?_
  refine r_aload_n 0 rfl dX7_init_37 ?_
  refine r_iconst (v := 5) rfl dX7_init_38 ?_
  refine r_newa (k0 := 108) (kd := 13) (N := 5) dX7_init_39 rfl (by decide) na_int rfl (ac_i (by decide)) (by decide) (by decide) (Nat.le_of_ble_eq_true rfl) (by repeat (first | exact hZ.w (Nat.le_of_ble_eq_true rfl) | refine Zr_r ?_ (Nat.le_of_ble_eq_true rfl) | refine Zr_s ?_ (Nat.le_of_ble_eq_true rfl) | refine Zr_i ?_ (Nat.le_of_ble_eq_true rfl) | refine Zr_kt ?_ (Nat.le_of_ble_eq_true rfl))) (Nat.le_of_ble_eq_true rfl) (Nat.le_of_ble_eq_true rfl) ?_
  refine r_putrF dX7_init_41 fl_X7_27 rfl rfl rfl hmn rfl ?_
  refine r_aload_n 0 rfl dX7_init_44 ?_
  refine r_bipush (v := 64) rfl dX7_init_45 ?_
  refine r_newa (k0 := 109) (kd := 13) (N := 64) dX7_init_47 rfl (by decide) na_int rfl (ac_i (by decide)) (by decide) (by decide) (Nat.le_of_ble_eq_true rfl) (by repeat (first | exact hZ.w (Nat.le_of_ble_eq_true rfl) | refine Zr_r ?_ (Nat.le_of_ble_eq_true rfl) | refine Zr_s ?_ (Nat.le_of_ble_eq_true rfl) | refine Zr_i ?_ (Nat.le_of_ble_eq_true rfl) | refine Zr_kt ?_ (Nat.le_of_ble_eq_true rfl))) (Nat.le_of_ble_eq_true rfl) (Nat.le_of_ble_eq_true rfl) ?_
  refine r_putrF dX7_init_49 fl_X7_30 rfl rfl rfl hmn rfl ?_
  refine r_aload_n 0 rfl dX7_init_52 ?_
  refine r_iload_n 1 rfl dX7_init_53 ?_
  refine r_putiF dX7_init_54 fl_X7_33 rfl rfl rfl hmn rfl ?_
  refine r_aload_n 0 rfl dX7_init_57 ?_
  refine r_aload_n 2 rfl dX7_init_58 ?_
  refine r_putrF dX7_init_59 fl_X7_37 rfl rfl rfl hmn rfl ?_
  refine r_aload_n 0 rfl dX7_init_62 ?_
  refine r_aload_n 3 rfl dX7_init_63 ?_
  refine r_putrF dX7_init_64 fl_X7_41 rfl rfl rfl hmn rfl ?_
  refine r_aload_n 0 rfl dX7_init_67 ?_
  refine r_aload 4 rfl dX7_init_68 ?_
  refine r_putrF dX7_init_70 fl_X7_45 rfl rfl rfl hmn rfl ?_
  exact r_vret hG dX7_init_73 ⟨rfl, rfl, rfl, rfl⟩
set_option maxRecDepth 100000 in
theorem ci_X7_110 {X : xG} {MI : Nat → Nat → Int32} {ML : Nat → Nat → Int64} {MR : Nat → Nat → Option Nat} (hOV : x_OV X) (hZ : Zr 111 MI ML MR) : Ct X yX7_init cX7_init 5 none 1 6 358 [.ref 110, .int 3, .ref 43, .ref 57, .ref 86] 112 (SH.take 111) MI ML MR 118 (SH.take 117) (fun r MI' ML' MR' => r = none ∧ MI' = (u2 MI 110 0 3) ∧ ML' = ML ∧ MR' = (u2 (u2 (u2 (u2 (u2 (u2 (u2 (u2 (u2 MR 110 5 (some 111)) 110 7 (some 112)) 110 8 (some 113)) 110 10 (some 114)) 110 12 (some 115)) 110 17 (some 116)) 110 1 (some 43)) 110 2 (some 57)) 110 3 (some 86))) := by
  refine Ct_of (by decide) (Nat.le_of_ble_eq_true rfl) (fun G hG => ?_)
  have hmn : G.2.2.2.2.2.2.2.2.2.1 = "<init>" := x_GI_mn hG
  refine r_aload_n 0 rfl dX7_init_0 ?_
  refine r_obj dX7_init_1 ol_X7_3 (Nat.le_of_ble_eq_true rfl) (Nat.le_of_ble_eq_true rfl) ?_
  refine r_aload_n 0 rfl dX7_init_4 ?_
  refine r_bipush (v := 33) rfl dX7_init_5 ?_
  refine r_newa (k0 := 111) (kd := 13) (N := 33) dX7_init_7 rfl (by decide) na_int rfl (ac_i (by decide)) (by decide) (by decide) (Nat.le_of_ble_eq_true rfl) (by repeat (first | exact hZ.w (Nat.le_of_ble_eq_true rfl) | refine Zr_r ?_ (Nat.le_of_ble_eq_true rfl) | refine Zr_s ?_ (Nat.le_of_ble_eq_true rfl) | refine Zr_i ?_ (Nat.le_of_ble_eq_true rfl) | refine Zr_kt ?_ (Nat.le_of_ble_eq_true rfl))) (Nat.le_of_ble_eq_true rfl) (Nat.le_of_ble_eq_true rfl) ?_
  refine r_putrF dX7_init_9 fl_X7_11 rfl rfl rfl hmn rfl ?_
  refine r_aload_n 0 rfl dX7_init_12 ?_
  refine r_bipush (v := 8) rfl dX7_init_13 ?_
  refine r_newa (k0 := 112) (kd := 14) (N := 8) dX7_init_15 rfl (by decide) na_long rfl ac_l (by decide) (by decide) (Nat.le_of_ble_eq_true rfl) (by repeat (first | exact hZ.w (Nat.le_of_ble_eq_true rfl) | refine Zr_r ?_ (Nat.le_of_ble_eq_true rfl) | refine Zr_s ?_ (Nat.le_of_ble_eq_true rfl) | refine Zr_i ?_ (Nat.le_of_ble_eq_true rfl) | refine Zr_kt ?_ (Nat.le_of_ble_eq_true rfl))) (Nat.le_of_ble_eq_true rfl) (Nat.le_of_ble_eq_true rfl) ?_
  refine r_putrF dX7_init_17 fl_X7_15 rfl rfl rfl hmn rfl ?_
  refine r_aload_n 0 rfl dX7_init_20 ?_
  refine r_bipush (v := 8) rfl dX7_init_21 ?_
  refine r_newa (k0 := 113) (kd := 14) (N := 8) dX7_init_23 rfl (by decide) na_long rfl ac_l (by decide) (by decide) (Nat.le_of_ble_eq_true rfl) (by repeat (first | exact hZ.w (Nat.le_of_ble_eq_true rfl) | refine Zr_r ?_ (Nat.le_of_ble_eq_true rfl) | refine Zr_s ?_ (Nat.le_of_ble_eq_true rfl) | refine Zr_i ?_ (Nat.le_of_ble_eq_true rfl) | refine Zr_kt ?_ (Nat.le_of_ble_eq_true rfl))) (Nat.le_of_ble_eq_true rfl) (Nat.le_of_ble_eq_true rfl) ?_
  refine r_putrF dX7_init_25 fl_X7_19 rfl rfl rfl hmn rfl ?_
  refine r_aload_n 0 rfl dX7_init_28 ?_
  refine r_sipush (v := 240) rfl dX7_init_29 ?_
  refine r_newa (k0 := 114) (kd := 13) (N := 240) dX7_init_32 rfl (by decide) na_int rfl (ac_i (by decide)) (by decide) (by decide) (Nat.le_of_ble_eq_true rfl) (by repeat (first | exact hZ.w (Nat.le_of_ble_eq_true rfl) | refine Zr_r ?_ (Nat.le_of_ble_eq_true rfl) | refine Zr_s ?_ (Nat.le_of_ble_eq_true rfl) | refine Zr_i ?_ (Nat.le_of_ble_eq_true rfl) | refine Zr_kt ?_ (Nat.le_of_ble_eq_true rfl))) (Nat.le_of_ble_eq_true rfl) (Nat.le_of_ble_eq_true rfl) ?_
  refine r_putrF dX7_init_34 fl_X7_22 rfl rfl rfl hmn rfl ?_
  refine r_aload_n 0 rfl dX7_init_37 ?_
  refine r_iconst (v := 5) rfl dX7_init_38 ?_
  refine r_newa (k0 := 115) (kd := 13) (N := 5) dX7_init_39 rfl (by decide) na_int rfl (ac_i (by decide)) (by decide) (by decide) (Nat.le_of_ble_eq_true rfl) (by repeat (first | exact hZ.w (Nat.le_of_ble_eq_true rfl) | refine Zr_r ?_ (Nat.le_of_ble_eq_true rfl) | refine Zr_s ?_ (Nat.le_of_ble_eq_true rfl) | refine Zr_i ?_ (Nat.le_of_ble_eq_true rfl) | refine Zr_kt ?_ (Nat.le_of_ble_eq_true rfl))) (Nat.le_of_ble_eq_true rfl) (Nat.le_of_ble_eq_true rfl) ?_
  refine r_putrF dX7_init_41 fl_X7_27 rfl rfl rfl hmn rfl ?_
  refine r_aload_n 0 rfl dX7_init_44 ?_
  refine r_bipush (v := 64) rfl dX7_init_45 ?_
  refine r_newa (k0 := 116) (kd := 13) (N := 64) dX7_init_47 rfl (by decide) na_int rfl (ac_i (by decide)) (by decide) (by decide) (Nat.le_of_ble_eq_true rfl) (by repeat (first | exact hZ.w (Nat.le_of_ble_eq_true rfl) | refine Zr_r ?_ (Nat.le_of_ble_eq_true rfl) | refine Zr_s ?_ (Nat.le_of_ble_eq_true rfl) | refine Zr_i ?_ (Nat.le_of_ble_eq_true rfl) | refine Zr_kt ?_ (Nat.le_of_ble_eq_true rfl))) (Nat.le_of_ble_eq_true rfl) (Nat.le_of_ble_eq_true rfl) ?_
  refine r_putrF dX7_init_49 fl_X7_30 rfl rfl rfl hmn rfl ?_
  refine r_aload_n 0 rfl dX7_init_52 ?_
  refine r_iload_n 1 rfl dX7_init_53 ?_
  refine r_putiF dX7_init_54 fl_X7_33 rfl rfl rfl hmn rfl ?_
  refine r_aload_n 0 rfl dX7_init_57 ?_
  refine r_aload_n 2 rfl dX7_init_58 ?_
  refine r_putrF dX7_init_59 fl_X7_37 rfl rfl rfl hmn rfl ?_
  refine r_aload_n 0 rfl dX7_init_62 ?_
  refine r_aload_n 3 rfl dX7_init_63 ?_
  refine r_putrF dX7_init_64 fl_X7_41 rfl rfl rfl hmn rfl ?_
  refine r_aload_n 0 rfl dX7_init_67 ?_
  refine r_aload 4 rfl dX7_init_68 ?_
  refine r_putrF dX7_init_70 fl_X7_45 rfl rfl rfl hmn rfl ?_
  exact r_vret hG dX7_init_73 ⟨rfl, rfl, rfl, rfl⟩
set_option maxRecDepth 100000 in
theorem ci_X7_117 {X : xG} {MI : Nat → Nat → Int32} {ML : Nat → Nat → Int64} {MR : Nat → Nat → Option Nat} (hOV : x_OV X) (hZ : Zr 118 MI ML MR) : Ct X yX7_init cX7_init 5 none 1 6 358 [.ref 117, .int 4, .ref 43, .ref 57, .ref 86] 119 (SH.take 118) MI ML MR 125 (SH.take 124) (fun r MI' ML' MR' => r = none ∧ MI' = (u2 MI 117 0 4) ∧ ML' = ML ∧ MR' = (u2 (u2 (u2 (u2 (u2 (u2 (u2 (u2 (u2 MR 117 5 (some 118)) 117 7 (some 119)) 117 8 (some 120)) 117 10 (some 121)) 117 12 (some 122)) 117 17 (some 123)) 117 1 (some 43)) 117 2 (some 57)) 117 3 (some 86))) := by
  refine Ct_of (by decide) (Nat.le_of_ble_eq_true rfl) (fun G hG => ?_)
  have hmn : G.2.2.2.2.2.2.2.2.2.1 = "<init>" := x_GI_mn hG
  refine r_aload_n 0 rfl dX7_init_0 ?_
  refine r_obj dX7_init_1 ol_X7_3 (Nat.le_of_ble_eq_true rfl) (Nat.le_of_ble_eq_true rfl) ?_
  refine r_aload_n 0 rfl dX7_init_4 ?_
  refine r_bipush (v := 33) rfl dX7_init_5 ?_
  refine r_newa (k0 := 118) (kd := 13) (N := 33) dX7_init_7 rfl (by decide) na_int rfl (ac_i (by decide)) (by decide) (by decide) (Nat.le_of_ble_eq_true rfl) (by repeat (first | exact hZ.w (Nat.le_of_ble_eq_true rfl) | refine Zr_r ?_ (Nat.le_of_ble_eq_true rfl) | refine Zr_s ?_ (Nat.le_of_ble_eq_true rfl) | refine Zr_i ?_ (Nat.le_of_ble_eq_true rfl) | refine Zr_kt ?_ (Nat.le_of_ble_eq_true rfl))) (Nat.le_of_ble_eq_true rfl) (Nat.le_of_ble_eq_true rfl) ?_
  refine r_putrF dX7_init_9 fl_X7_11 rfl rfl rfl hmn rfl ?_
  refine r_aload_n 0 rfl dX7_init_12 ?_
  refine r_bipush (v := 8) rfl dX7_init_13 ?_
  refine r_newa (k0 := 119) (kd := 14) (N := 8) dX7_init_15 rfl (by decide) na_long rfl ac_l (by decide) (by decide) (Nat.le_of_ble_eq_true rfl) (by repeat (first | exact hZ.w (Nat.le_of_ble_eq_true rfl) | refine Zr_r ?_ (Nat.le_of_ble_eq_true rfl) | refine Zr_s ?_ (Nat.le_of_ble_eq_true rfl) | refine Zr_i ?_ (Nat.le_of_ble_eq_true rfl) | refine Zr_kt ?_ (Nat.le_of_ble_eq_true rfl))) (Nat.le_of_ble_eq_true rfl) (Nat.le_of_ble_eq_true rfl) ?_
  refine r_putrF dX7_init_17 fl_X7_15 rfl rfl rfl hmn rfl ?_
  refine r_aload_n 0 rfl dX7_init_20 ?_
  refine r_bipush (v := 8) rfl dX7_init_21 ?_
  refine r_newa (k0 := 120) (kd := 14) (N := 8) dX7_init_23 rfl (by decide) na_long rfl ac_l (by decide) (by decide) (Nat.le_of_ble_eq_true rfl) (by repeat (first | exact hZ.w (Nat.le_of_ble_eq_true rfl) | refine Zr_r ?_ (Nat.le_of_ble_eq_true rfl) | refine Zr_s ?_ (Nat.le_of_ble_eq_true rfl) | refine Zr_i ?_ (Nat.le_of_ble_eq_true rfl) | refine Zr_kt ?_ (Nat.le_of_ble_eq_true rfl))) (Nat.le_of_ble_eq_true rfl) (Nat.le_of_ble_eq_true rfl) ?_
  refine r_putrF dX7_init_25 fl_X7_19 rfl rfl rfl hmn rfl ?_
  refine r_aload_n 0 rfl dX7_init_28 ?_
  refine r_sipush (v := 240) rfl dX7_init_29 ?_
  refine r_newa (k0 := 121) (kd := 13) (N := 240) dX7_init_32 rfl (by decide) na_int rfl (ac_i (by decide)) (by decide) (by decide) (Nat.le_of_ble_eq_true rfl) (by repeat (first | exact hZ.w (Nat.le_of_ble_eq_true rfl) | refine Zr_r ?_ (Nat.le_of_ble_eq_true rfl) | refine Zr_s ?_ (Nat.le_of_ble_eq_true rfl) | refine Zr_i ?_ (Nat.le_of_ble_eq_true rfl) | refine Zr_kt ?_ (Nat.le_of_ble_eq_true rfl))) (Nat.le_of_ble_eq_true rfl) (Nat.le_of_ble_eq_true rfl) ?_
  refine r_putrF dX7_init_34 fl_X7_22 rfl rfl rfl hmn rfl ?_
  refine r_aload_n 0 rfl dX7_init_37 ?_
  refine r_iconst (v := 5) rfl dX7_init_38 ?_
  refine r_newa (k0 := 122) (kd := 13) (N := 5) dX7_init_39 rfl (by decide) na_int rfl (ac_i (by decide)) (by decide) (by decide) (Nat.le_of_ble_eq_true rfl) (by repeat (first | exact hZ.w (Nat.le_of_ble_eq_true rfl) | refine Zr_r ?_ (Nat.le_of_ble_eq_true rfl) | refine Zr_s ?_ (Nat.le_of_ble_eq_true rfl) | refine Zr_i ?_ (Nat.le_of_ble_eq_true rfl) | refine Zr_kt ?_ (Nat.le_of_ble_eq_true rfl))) (Nat.le_of_ble_eq_true rfl) (Nat.le_of_ble_eq_true rfl) ?_
  refine r_putrF dX7_init_41 fl_X7_27 rfl rfl rfl hmn rfl ?_
  refine r_aload_n 0 rfl dX7_init_44 ?_
  refine r_bipush (v := 64) rfl dX7_init_45 ?_
  refine r_newa (k0 := 123) (kd := 13) (N := 64) dX7_init_47 rfl (by decide) na_int rfl (ac_i (by decide)) (by decide) (by decide) (Nat.le_of_ble_eq_true rfl) (by repeat (first | exact hZ.w (Nat.le_of_ble_eq_true rfl) | refine Zr_r ?_ (Nat.le_of_ble_eq_true rfl) | refine Zr_s ?_ (Nat.le_of_ble_eq_true rfl) | refine Zr_i ?_ (Nat.le_of_ble_eq_true rfl) | refine Zr_kt ?_ (Nat.le_of_ble_eq_true rfl))) (Nat.le_of_ble_eq_true rfl) (Nat.le_of_ble_eq_true rfl) ?_
  refine r_putrF dX7_init_49 fl_X7_30 rfl rfl rfl hmn rfl ?_
  refine r_aload_n 0 rfl dX7_init_52 ?_
  refine r_iload_n 1 rfl dX7_init_53 ?_
  refine r_putiF dX7_init_54 fl_X7_33 rfl rfl rfl hmn rfl ?_
  refine r_aload_n 0 rfl dX7_init_57 ?_
  refine r_aload_n 2 rfl dX7_init_58 ?_
  refine r_putrF dX7_init_59 fl_X7_37 rfl rfl rfl hmn rfl ?_
  refine r_aload_n 0 rfl dX7_init_62 ?_
  refine r_aload_n 3 rfl dX7_init_63 ?_
  refine r_putrF dX7_init_64 fl_X7_41 rfl rfl rfl hmn rfl ?_
  refine r_aload_n 0 rfl dX7_init_67 ?_
  refine r_aload 4 rfl dX7_init_68 ?_
  refine r_putrF dX7_init_70 fl_X7_45 rfl rfl rfl hmn rfl ?_
  exact r_vret hG dX7_init_73 ⟨rfl, rfl, rfl, rfl⟩

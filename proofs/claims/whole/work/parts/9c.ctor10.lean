/-! the desk (gen/ctors.py) -/
set_option maxRecDepth 100000 in
theorem ci_X10_0 {X : xG} {MI : Nat → Nat → Int32} {ML : Nat → Nat → Int64} {MR : Nat → Nat → Option Nat} (hSt : x_St X) (hOV : x_OV X) (hZ : Zr 1 MI ML MR) : Ct X yX10_init cX10_init 3 none 3 123 4037 [.ref 0] 2 (SH.take 1) MI ML MR 125 (SH.take 124) (fun r MI' ML' MR' => r = none ∧ MI' = (u2 (u2 (u2 (u2 (u2 (u2 MI 43 7 (-2)) 89 0 0) 96 0 1) 103 0 2) 110 0 3) 117 0 4) ∧ ML' = (ktM 729 ML) ∧ MR' = (u2 (u2 (u2 (u2 (u2 (u2 (u2 (u2 (u2 (u2 (u2 (u2 (u2 (u2 (u2 (u2 (u2 (u2 (u2 (u2 (u2 (u2 (u2 (u2 (u2 (u2 (u2 (u2 (u2 (u2 (u2 (u2 (u2 (u2 (u2 (u2 (u2 (u2 (u2 (u2 (u2 (u2 (u2 (u2 (u2 (u2 (u2 (u2 (u2 (u2 (u2 (u2 (u2 (u2 (u2 (u2 (u2 (u2 (u2 (u2 (u2 (u2 (u2 (u2 (u2 (u2 (u2 (u2 (u2 (u2 (u2 (u2 (u2 (u2 (u2 (u2 (u2 (u2 (u2 (u2 (u2 (u2 (u2 (u2 (u2 (u2 (u2 (u2 (u2 (u2 (u2 (u2 (u2 (u2 (u2 (u2 (u2 (u2 (u2 (u2 (u2 (sr (u2 (u2 (u2 (u2 (u2 (sr (u2 (u2 (u2 (u2 (u2 (u2 (sr (u2 MR 1 2 (some 2)) 3 (fun i => if i < 8 then some (3 + 1 + i) else none)) 1 7 (some 3)) 1 9 (some 12)) 1 10 (some 13)) 0 0 (some 1)) 14 0 (some 15)) 16 2 (some 17)) 18 (fun i => if i < 8 then some (18 + 1 + i) else none)) 16 7 (some 18)) 16 9 (some 27)) 16 10 (some 28)) 14 2 (some 16)) 0 1 (some 14)) 30 (fun i => if i < 12 then some (30 + 1 + i) else none)) 29 1 (some 30)) 29 0 (some 1)) 0 2 (some 29)) 43 1 (some 44)) 43 2 (some 45)) 43 3 (some 46)) 43 4 (some 47)) 48 0 (some 49)) 48 1 (some 50)) 43 5 (some 48)) 43 8 (some 51)) 43 9 (some 52)) 43 10 (some 53)) 43 11 (some 54)) 43 12 (some 55)) 43 13 (some 56)) 43 0 (some 1)) 0 3 (some 43)) 57 0 (some 58)) 0 4 (some 57)) 0 5 (some 59)) 60 1 (some 61)) 60 2 (some 62)) 60 3 (some 63)) 60 0 (some 43)) 64 0 (some 65)) 64 1 (some 66)) 62 0 (some 64)) 67 0 (some 68)) 67 1 (some 69)) 62 1 (some 67)) 70 0 (some 71)) 70 1 (some 72)) 62 2 (some 70)) 73 0 (some 74)) 73 1 (some 75)) 62 3 (some 73)) 76 0 (some 77)) 76 1 (some 78)) 62 4 (some 76)) 79 0 (some 80)) 79 1 (some 81)) 62 5 (some 79)) 82 0 (some 83)) 82 1 (some 84)) 62 6 (some 82)) 0 6 (some 60)) 85 0 (some 43)) 0 7 (some 85)) 86 0 (some 87)) 86 3 (some 88)) 89 5 (some 90)) 89 7 (some 91)) 89 8 (some 92)) 89 10 (some 93)) 89 12 (some 94)) 89 17 (some 95)) 89 1 (some 43)) 89 2 (some 57)) 89 3 (some 86)) 59 0 (some 89)) 96 5 (some 97)) 96 7 (some 98)) 96 8 (some 99)) 96 10 (some 100)) 96 12 (some 101)) 96 17 (some 102)) 96 1 (some 43)) 96 2 (some 57)) 96 3 (some 86)) 59 1 (some 96)) 103 5 (some 104)) 103 7 (some 105)) 103 8 (some 106)) 103 10 (some 107)) 103 12 (some 108)) 103 17 (some 109)) 103 1 (some 43)) 103 2 (some 57)) 103 3 (some 86)) 59 2 (some 103)) 110 5 (some 111)) 110 7 (some 112)) 110 8 (some 113)) 110 10 (some 114)) 110 12 (some 115)) 110 17 (some 116)) 110 1 (some 43)) 110 2 (some 57)) 110 3 (some 86)) 59 3 (some 110)) 117 5 (some 118)) 117 7 (some 119)) 117 8 (some 120)) 117 10 (some 121)) 117 12 (some 122)) 117 17 (some 123)) 117 1 (some 43)) 117 2 (some 57)) 117 3 (some 86)) 59 4 (some 117))) := by
  refine Ct_of (by decide) (Nat.le_of_ble_eq_true rfl) (fun G hG => ?_)
  have hmn : G.2.2.2.2.2.2.2.2.2.1 = "<init>" := x_GI_mn hG
  refine r_aload_n 0 rfl dX10_init_0 ?_
  refine r_obj dX10_init_1 ol_X10_1 (Nat.le_of_ble_eq_true rfl) (Nat.le_of_ble_eq_true rfl) ?_
  refine r_aload_n 0 rfl dX10_init_4 ?_
  refine r_new (k0 := 1) dX10_init_5 rfl cl_5 (by decide) nl_X10_7 ni_X5 ii_X5 dv_5 (by repeat (first | exact hZ.w (Nat.le_of_ble_eq_true rfl) | refine Zr_r ?_ (Nat.le_of_ble_eq_true rfl) | refine Zr_s ?_ (Nat.le_of_ble_eq_true rfl) | refine Zr_i ?_ (Nat.le_of_ble_eq_true rfl) | refine Zr_kt ?_ (Nat.le_of_ble_eq_true rfl))) (Nat.le_of_ble_eq_true rfl) (Nat.le_of_ble_eq_true rfl) ?_
  refine r_dup rfl dX10_init_8 ?_
  refine r_callI (rt' := none) (a := 1) (as := []) dX10_init_9 lk_X10_9 mb_X5_init in_X5_init rfl (ci_X5_1 hOV (by repeat (first | exact hZ.w (Nat.le_of_ble_eq_true rfl) | refine Zr_r ?_ (Nat.le_of_ble_eq_true rfl) | refine Zr_s ?_ (Nat.le_of_ble_eq_true rfl) | refine Zr_i ?_ (Nat.le_of_ble_eq_true rfl) | refine Zr_kt ?_ (Nat.le_of_ble_eq_true rfl)))) rfl rfl (Nat.le_of_ble_eq_true rfl) rfl (fun zr zA zB zC zq => ?_)
  obtain ⟨rfl, rfl, rfl, rfl⟩ := zq
  refine r_putrF dX10_init_12 fl_X10_10 rfl rfl rfl hmn rfl ?_
  refine r_aload_n 0 rfl dX10_init_15 ?_
  refine r_new (k0 := 14) dX10_init_16 rfl cl_6 (by decide) nl_X10_16 ni_X6 ii_X6 dv_6 (by repeat (first | exact hZ.w (Nat.le_of_ble_eq_true rfl) | refine Zr_r ?_ (Nat.le_of_ble_eq_true rfl) | refine Zr_s ?_ (Nat.le_of_ble_eq_true rfl) | refine Zr_i ?_ (Nat.le_of_ble_eq_true rfl) | refine Zr_kt ?_ (Nat.le_of_ble_eq_true rfl))) (Nat.le_of_ble_eq_true rfl) (Nat.le_of_ble_eq_true rfl) ?_
  refine r_dup rfl dX10_init_19 ?_
  refine r_callI (rt' := none) (a := 14) (as := []) dX10_init_20 lk_X10_18 mb_X6_init in_X6_init rfl (ci_X6_14 hOV (by repeat (first | exact hZ.w (Nat.le_of_ble_eq_true rfl) | refine Zr_r ?_ (Nat.le_of_ble_eq_true rfl) | refine Zr_s ?_ (Nat.le_of_ble_eq_true rfl) | refine Zr_i ?_ (Nat.le_of_ble_eq_true rfl) | refine Zr_kt ?_ (Nat.le_of_ble_eq_true rfl)))) rfl rfl (Nat.le_of_ble_eq_true rfl) rfl (fun zr zA zB zC zq => ?_)
  obtain ⟨rfl, rfl, rfl, rfl⟩ := zq
  refine r_putrF dX10_init_23 fl_X10_19 rfl rfl rfl hmn rfl ?_
  refine r_aload_n 0 rfl dX10_init_26 ?_
  refine r_new (k0 := 29) dX10_init_27 rfl cl_0 (by decide) nl_X10_23 ni_X0 ii_X0 dv_0 (by repeat (first | exact hZ.w (Nat.le_of_ble_eq_true rfl) | refine Zr_r ?_ (Nat.le_of_ble_eq_true rfl) | refine Zr_s ?_ (Nat.le_of_ble_eq_true rfl) | refine Zr_i ?_ (Nat.le_of_ble_eq_true rfl) | refine Zr_kt ?_ (Nat.le_of_ble_eq_true rfl))) (Nat.le_of_ble_eq_true rfl) (Nat.le_of_ble_eq_true rfl) ?_
  refine r_dup rfl dX10_init_30 ?_
  refine r_aload_n 0 rfl dX10_init_31 ?_
  refine r_getr (b := 1) dX10_init_32 fl_X10_10 rfl (by simp [u2, sr]) ?_
  refine r_callI (rt' := none) (a := 29) (as := [.ref 1]) dX10_init_35 lk_X10_25 mb_X0_init in_X0_init rfl (ci_X0_29 hOV (by repeat (first | exact hZ.w (Nat.le_of_ble_eq_true rfl) | refine Zr_r ?_ (Nat.le_of_ble_eq_true rfl) | refine Zr_s ?_ (Nat.le_of_ble_eq_true rfl) | refine Zr_i ?_ (Nat.le_of_ble_eq_true rfl) | refine Zr_kt ?_ (Nat.le_of_ble_eq_true rfl)))) rfl rfl (Nat.le_of_ble_eq_true rfl) rfl (fun zr zA zB zC zq => ?_)
  obtain ⟨rfl, rfl, rfl, rfl⟩ := zq
  refine r_putrF dX10_init_38 fl_X10_28 rfl rfl rfl hmn rfl ?_
  refine r_aload_n 0 rfl dX10_init_41 ?_
  refine r_new (k0 := 43) dX10_init_42 rfl cl_8 (by decide) nl_X10_32 ni_X8 ii_X8 dv_8 (by repeat (first | exact hZ.w (Nat.le_of_ble_eq_true rfl) | refine Zr_r ?_ (Nat.le_of_ble_eq_true rfl) | refine Zr_s ?_ (Nat.le_of_ble_eq_true rfl) | refine Zr_i ?_ (Nat.le_of_ble_eq_true rfl) | refine Zr_kt ?_ (Nat.le_of_ble_eq_true rfl))) (Nat.le_of_ble_eq_true rfl) (Nat.le_of_ble_eq_true rfl) ?_
  refine r_dup rfl dX10_init_45 ?_
  refine r_aload_n 0 rfl dX10_init_46 ?_
  refine r_getr (b := 1) dX10_init_47 fl_X10_10 rfl (by simp [u2, sr]) ?_
  refine r_callI (rt' := none) (a := 43) (as := [.ref 1]) dX10_init_50 lk_X10_34 mb_X8_init in_X8_init rfl (ci_X8_43 hOV (by repeat (first | exact hZ.w (Nat.le_of_ble_eq_true rfl) | refine Zr_r ?_ (Nat.le_of_ble_eq_true rfl) | refine Zr_s ?_ (Nat.le_of_ble_eq_true rfl) | refine Zr_i ?_ (Nat.le_of_ble_eq_true rfl) | refine Zr_kt ?_ (Nat.le_of_ble_eq_true rfl)))) rfl rfl (Nat.le_of_ble_eq_true rfl) rfl (fun zr zA zB zC zq => ?_)
  obtain ⟨rfl, rfl, rfl, rfl⟩ := zq
  refine r_putrF dX10_init_53 fl_X10_35 rfl rfl rfl hmn rfl ?_
  refine r_aload_n 0 rfl dX10_init_56 ?_
  refine r_new (k0 := 57) dX10_init_57 rfl cl_2 (by decide) nl_X10_39 ni_X2 ii_X2 dv_2 (by repeat (first | exact hZ.w (Nat.le_of_ble_eq_true rfl) | refine Zr_r ?_ (Nat.le_of_ble_eq_true rfl) | refine Zr_s ?_ (Nat.le_of_ble_eq_true rfl) | refine Zr_i ?_ (Nat.le_of_ble_eq_true rfl) | refine Zr_kt ?_ (Nat.le_of_ble_eq_true rfl))) (Nat.le_of_ble_eq_true rfl) (Nat.le_of_ble_eq_true rfl) ?_
  refine r_dup rfl dX10_init_60 ?_
  refine r_callI (rt' := none) (a := 57) (as := []) dX10_init_61 lk_X10_41 mb_X2_init in_X2_init rfl (ci_X2_57 hSt hOV (by repeat (first | exact hZ.w (Nat.le_of_ble_eq_true rfl) | refine Zr_r ?_ (Nat.le_of_ble_eq_true rfl) | refine Zr_s ?_ (Nat.le_of_ble_eq_true rfl) | refine Zr_i ?_ (Nat.le_of_ble_eq_true rfl) | refine Zr_kt ?_ (Nat.le_of_ble_eq_true rfl)))) rfl rfl (Nat.le_of_ble_eq_true rfl) rfl (fun zr zA zB zC zq => ?_)
  obtain ⟨rfl, rfl, rfl, rfl⟩ := zq
  refine r_putrF dX10_init_64 fl_X10_42 rfl rfl rfl hmn rfl ?_
  refine r_aload_n 0 rfl dX10_init_67 ?_
  refine r_iconst (v := 5) rfl dX10_init_68 ?_
  refine r_anew (k0 := 59) (kd := 17) (N := 5) dX10_init_69 rfl (by decide) nl_X10_46 hOV.2.1 rfl (by decide) (by decide) (Nat.le_of_ble_eq_true rfl) (by repeat (first | exact hZ.w (Nat.le_of_ble_eq_true rfl) | refine Zr_r ?_ (Nat.le_of_ble_eq_true rfl) | refine Zr_s ?_ (Nat.le_of_ble_eq_true rfl) | refine Zr_i ?_ (Nat.le_of_ble_eq_true rfl) | refine Zr_kt ?_ (Nat.le_of_ble_eq_true rfl))) (Nat.le_of_ble_eq_true rfl) (Nat.le_of_ble_eq_true rfl) ?_
  refine r_putrF dX10_init_72 fl_X10_48 rfl rfl rfl hmn rfl ?_
  refine r_aload_n 0 rfl dX10_init_75 ?_
  refine r_new (k0 := 60) dX10_init_76 rfl cl_1 (by decide) nl_X10_52 ni_X1 ii_X1 dv_1 (by repeat (first | exact hZ.w (Nat.le_of_ble_eq_true rfl) | refine Zr_r ?_ (Nat.le_of_ble_eq_true rfl) | refine Zr_s ?_ (Nat.le_of_ble_eq_true rfl) | refine Zr_i ?_ (Nat.le_of_ble_eq_true rfl) | refine Zr_kt ?_ (Nat.le_of_ble_eq_true rfl))) (Nat.le_of_ble_eq_true rfl) (Nat.le_of_ble_eq_true rfl) ?_
  refine r_dup rfl dX10_init_79 ?_
  refine r_aload_n 0 rfl dX10_init_80 ?_
  refine r_getr (b := 43) dX10_init_81 fl_X10_35 rfl (by simp [u2, sr]) ?_
  refine r_callI (rt' := none) (a := 60) (as := [.ref 43]) dX10_init_84 lk_X10_54 mb_X1_init in_X1_init rfl (ci_X1_60 hOV (by repeat (first | exact hZ.w (Nat.le_of_ble_eq_true rfl) | refine Zr_r ?_ (Nat.le_of_ble_eq_true rfl) | refine Zr_s ?_ (Nat.le_of_ble_eq_true rfl) | refine Zr_i ?_ (Nat.le_of_ble_eq_true rfl) | refine Zr_kt ?_ (Nat.le_of_ble_eq_true rfl)))) rfl rfl (Nat.le_of_ble_eq_true rfl) rfl (fun zr zA zB zC zq => ?_)
  obtain ⟨rfl, rfl, rfl, rfl⟩ := zq
  refine r_putrF dX10_init_87 fl_X10_57 rfl rfl rfl hmn rfl ?_
  refine r_aload_n 0 rfl dX10_init_90 ?_
  refine r_new (k0 := 85) dX10_init_91 rfl cl_9 (by decide) nl_X10_61 ni_X9 ii_X9 dv_9 (by repeat (first | exact hZ.w (Nat.le_of_ble_eq_true rfl) | refine Zr_r ?_ (Nat.le_of_ble_eq_true rfl) | refine Zr_s ?_ (Nat.le_of_ble_eq_true rfl) | refine Zr_i ?_ (Nat.le_of_ble_eq_true rfl) | refine Zr_kt ?_ (Nat.le_of_ble_eq_true rfl))) (Nat.le_of_ble_eq_true rfl) (Nat.le_of_ble_eq_true rfl) ?_
  refine r_dup rfl dX10_init_94 ?_
  refine r_aload_n 0 rfl dX10_init_95 ?_
  refine r_getr (b := 43) dX10_init_96 fl_X10_35 rfl (by simp [u2, sr]) ?_
  refine r_callI (rt' := none) (a := 85) (as := [.ref 43]) dX10_init_99 lk_X10_63 mb_X9_init in_X9_init rfl (ci_X9_85 hOV (by repeat (first | exact hZ.w (Nat.le_of_ble_eq_true rfl) | refine Zr_r ?_ (Nat.le_of_ble_eq_true rfl) | refine Zr_s ?_ (Nat.le_of_ble_eq_true rfl) | refine Zr_i ?_ (Nat.le_of_ble_eq_true rfl) | refine Zr_kt ?_ (Nat.le_of_ble_eq_true rfl)))) rfl rfl (Nat.le_of_ble_eq_true rfl) rfl (fun zr zA zB zC zq => ?_)
  obtain ⟨rfl, rfl, rfl, rfl⟩ := zq
  refine r_putrF dX10_init_102 fl_X10_64 rfl rfl rfl hmn rfl ?_
  refine r_new (k0 := 86) dX10_init_105 rfl cl_4 (by decide) nl_X10_68 ni_X4 ii_X4 dv_4 (by repeat (first | exact hZ.w (Nat.le_of_ble_eq_true rfl) | refine Zr_r ?_ (Nat.le_of_ble_eq_true rfl) | refine Zr_s ?_ (Nat.le_of_ble_eq_true rfl) | refine Zr_i ?_ (Nat.le_of_ble_eq_true rfl) | refine Zr_kt ?_ (Nat.le_of_ble_eq_true rfl))) (Nat.le_of_ble_eq_true rfl) (Nat.le_of_ble_eq_true rfl) ?_
  refine r_dup rfl dX10_init_108 ?_
  refine r_callI (rt' := none) (a := 86) (as := []) dX10_init_109 lk_X10_70 mb_X4_init in_X4_init rfl (ci_X4_86 hOV (by repeat (first | exact hZ.w (Nat.le_of_ble_eq_true rfl) | refine Zr_r ?_ (Nat.le_of_ble_eq_true rfl) | refine Zr_s ?_ (Nat.le_of_ble_eq_true rfl) | refine Zr_i ?_ (Nat.le_of_ble_eq_true rfl) | refine Zr_kt ?_ (Nat.le_of_ble_eq_true rfl)))) rfl rfl (Nat.le_of_ble_eq_true rfl) rfl (fun zr zA zB zC zq => ?_)
  obtain ⟨rfl, rfl, rfl, rfl⟩ := zq
  refine r_astore_n (ls2 := [(1, .ref 86), (0, .ref 0)]) dX10_init_112 (by decide) rfl ?_
  refine r_iconst (v := 0) rfl dX10_init_113 ?_
  refine r_istore_n (ls2 := [(2, .int 0), (1, .ref 86), (0, .ref 0)]) dX10_init_114 (by decide) rfl ?_
  refine r_iload_n 0 rfl dX10_init_115 ?_
  refine r_iconst (v := 5) rfl dX10_init_116 ?_
  refine r_icmpge (tgt := 149) dX10_init_117 (by decide) (fun zh => ?_) (fun zh => ?_)
  · exact absurd zh (by decide)
  refine r_aload_n 2 rfl dX10_init_120 ?_
  refine r_getr (b := 59) dX10_init_121 fl_X10_48 rfl (by simp [u2, sr]) ?_
  refine r_iload_n 0 rfl dX10_init_124 ?_
  refine r_new (k0 := 89) dX10_init_125 rfl cl_7 (by decide) nl_X10_46 ni_X7 ii_X7 dv_7 (by repeat (first | exact hZ.w (Nat.le_of_ble_eq_true rfl) | refine Zr_r ?_ (Nat.le_of_ble_eq_true rfl) | refine Zr_s ?_ (Nat.le_of_ble_eq_true rfl) | refine Zr_i ?_ (Nat.le_of_ble_eq_true rfl) | refine Zr_kt ?_ (Nat.le_of_ble_eq_true rfl))) (Nat.le_of_ble_eq_true rfl) (Nat.le_of_ble_eq_true rfl) ?_
  refine r_dup rfl dX10_init_128 ?_
  refine r_iload_n 0 rfl dX10_init_129 ?_
  refine r_aload_n 2 rfl dX10_init_130 ?_
  refine r_getr (b := 43) dX10_init_131 fl_X10_35 rfl (by simp [u2, sr]) ?_
  refine r_aload_n 2 rfl dX10_init_134 ?_
  refine r_getr (b := 57) dX10_init_135 fl_X10_42 rfl (by simp [u2, sr]) ?_
  refine r_aload_n 1 rfl dX10_init_138 ?_
  refine r_callI (rt' := none) (a := 89) (as := [.int 0, .ref 43, .ref 57, .ref 86]) dX10_init_139 lk_X10_71 mb_X7_init in_X7_init rfl (ci_X7_89 hOV (by repeat (first | exact hZ.w (Nat.le_of_ble_eq_true rfl) | refine Zr_r ?_ (Nat.le_of_ble_eq_true rfl) | refine Zr_s ?_ (Nat.le_of_ble_eq_true rfl) | refine Zr_i ?_ (Nat.le_of_ble_eq_true rfl) | refine Zr_kt ?_ (Nat.le_of_ble_eq_true rfl)))) rfl rfl (Nat.le_of_ble_eq_true rfl) rfl (fun zr zA zB zC zq => ?_)
  obtain ⟨rfl, rfl, rfl, rfl⟩ := zq
  refine r_aastO (kd := 17) (ci := 7) dX10_init_142 rfl (by decide) rfl (by decide) rfl rfl (vpk (k := 0) (by decide) (by decide) rfl) ?_
  refine r_iinc (v := 1) (ls2 := [(2, .int 1), (1, .ref 86), (0, .ref 0)]) 0 dX10_init_143 rfl (by decide) (by decide) rfl ?_
  refine r_goto (tgt := 115) dX10_init_146 (by decide) ?_
  refine r_iload_n 0 rfl dX10_init_115 ?_
  refine r_iconst (v := 5) rfl dX10_init_116 ?_
  refine r_icmpge (tgt := 149) dX10_init_117 (by decide) (fun zh => ?_) (fun zh => ?_)
  · exact absurd zh (by decide)
  refine r_aload_n 2 rfl dX10_init_120 ?_
  refine r_getr (b := 59) dX10_init_121 fl_X10_48 rfl (by simp [u2, sr]) ?_
  refine r_iload_n 0 rfl dX10_init_124 ?_
  refine r_new (k0 := 96) dX10_init_125 rfl cl_7 (by decide) nl_X10_46 ni_X7 ii_X7 dv_7 (by repeat (first | exact hZ.w (Nat.le_of_ble_eq_true rfl) | refine Zr_r ?_ (Nat.le_of_ble_eq_true rfl) | refine Zr_s ?_ (Nat.le_of_ble_eq_true rfl) | refine Zr_i ?_ (Nat.le_of_ble_eq_true rfl) | refine Zr_kt ?_ (Nat.le_of_ble_eq_true rfl))) (Nat.le_of_ble_eq_true rfl) (Nat.le_of_ble_eq_true rfl) ?_
  refine r_dup rfl dX10_init_128 ?_
  refine r_iload_n 0 rfl dX10_init_129 ?_
  refine r_aload_n 2 rfl dX10_init_130 ?_
  refine r_getr (b := 43) dX10_init_131 fl_X10_35 rfl (by simp [u2, sr]) ?_
  refine r_aload_n 2 rfl dX10_init_134 ?_
  refine r_getr (b := 57) dX10_init_135 fl_X10_42 rfl (by simp [u2, sr]) ?_
  refine r_aload_n 1 rfl dX10_init_138 ?_
  refine r_callI (rt' := none) (a := 96) (as := [.int 1, .ref 43, .ref 57, .ref 86]) dX10_init_139 lk_X10_71 mb_X7_init in_X7_init rfl (ci_X7_96 hOV (by repeat (first | exact hZ.w (Nat.le_of_ble_eq_true rfl) | refine Zr_r ?_ (Nat.le_of_ble_eq_true rfl) | refine Zr_s ?_ (Nat.le_of_ble_eq_true rfl) | refine Zr_i ?_ (Nat.le_of_ble_eq_true rfl) | refine Zr_kt ?_ (Nat.le_of_ble_eq_true rfl)))) rfl rfl (Nat.le_of_ble_eq_true rfl) rfl (fun zr zA zB zC zq => ?_)
  obtain ⟨rfl, rfl, rfl, rfl⟩ := zq
  refine r_aastO (kd := 17) (ci := 7) dX10_init_142 rfl (by decide) rfl (by decide) rfl rfl (vpk (k := 1) (by decide) (by decide) rfl) ?_
  refine r_iinc (v := 2) (ls2 := [(2, .int 2), (1, .ref 86), (0, .ref 0)]) 0 dX10_init_143 rfl (by decide) (by decide) rfl ?_
  refine r_goto (tgt := 115) dX10_init_146 (by decide) ?_
  refine r_iload_n 0 rfl dX10_init_115 ?_
  refine r_iconst (v := 5) rfl dX10_init_116 ?_
  refine r_icmpge (tgt := 149) dX10_init_117 (by decide) (fun zh => ?_) (fun zh => ?_)
  · exact absurd zh (by decide)
  refine r_aload_n 2 rfl dX10_init_120 ?_
  refine r_getr (b := 59) dX10_init_121 fl_X10_48 rfl (by simp [u2, sr]) ?_
  refine r_iload_n 0 rfl dX10_init_124 ?_
  refine r_new (k0 := 103) dX10_init_125 rfl cl_7 (by decide) nl_X10_46 ni_X7 ii_X7 dv_7 (by repeat (first | exact hZ.w (Nat.le_of_ble_eq_true rfl) | refine Zr_r ?_ (Nat.le_of_ble_eq_true rfl) | refine Zr_s ?_ (Nat.le_of_ble_eq_true rfl) | refine Zr_i ?_ (Nat.le_of_ble_eq_true rfl) | refine Zr_kt ?_ (Nat.le_of_ble_eq_true rfl))) (Nat.le_of_ble_eq_true rfl) (Nat.le_of_ble_eq_true rfl) ?_
  refine r_dup rfl dX10_init_128 ?_
  refine r_iload_n 0 rfl dX10_init_129 ?_
  refine r_aload_n 2 rfl dX10_init_130 ?_
  refine r_getr (b := 43) dX10_init_131 fl_X10_35 rfl (by simp [u2, sr]) ?_
  refine r_aload_n 2 rfl dX10_init_134 ?_
  refine r_getr (b := 57) dX10_init_135 fl_X10_42 rfl (by simp [u2, sr]) ?_
  refine r_aload_n 1 rfl dX10_init_138 ?_
  refine r_callI (rt' := none) (a := 103) (as := [.int 2, .ref 43, .ref 57, .ref 86]) dX10_init_139 lk_X10_71 mb_X7_init in_X7_init rfl (ci_X7_103 hOV (by repeat (first | exact hZ.w (Nat.le_of_ble_eq_true rfl) | refine Zr_r ?_ (Nat.le_of_ble_eq_true rfl) | refine Zr_s ?_ (Nat.le_of_ble_eq_true rfl) | refine Zr_i ?_ (Nat.le_of_ble_eq_true rfl) | refine Zr_kt ?_ (Nat.le_of_ble_eq_true rfl)))) rfl rfl (Nat.le_of_ble_eq_true rfl) rfl (fun zr zA zB zC zq => ?_)
  obtain ⟨rfl, rfl, rfl, rfl⟩ := zq
  refine r_aastO (kd := 17) (ci := 7) dX10_init_142 rfl (by decide) rfl (by decide) rfl rfl (vpk (k := 2) (by decide) (by decide) rfl) ?_
  refine r_iinc (v := 3) (ls2 := [(2, .int 3), (1, .ref 86), (0, .ref 0)]) 0 dX10_init_143 rfl (by decide) (by decide) rfl ?_
  refine r_goto (tgt := 115) dX10_init_146 (by decide) ?_
  refine r_iload_n 0 rfl dX10_init_115 ?_
  refine r_iconst (v := 5) rfl dX10_init_116 ?_
  refine r_icmpge (tgt := 149) dX10_init_117 (by decide) (fun zh => ?_) (fun zh => ?_)
  · exact absurd zh (by decide)
  refine r_aload_n 2 rfl dX10_init_120 ?_
  refine r_getr (b := 59) dX10_init_121 fl_X10_48 rfl (by simp [u2, sr]) ?_
  refine r_iload_n 0 rfl dX10_init_124 ?_
  refine r_new (k0 := 110) dX10_init_125 rfl cl_7 (by decide) nl_X10_46 ni_X7 ii_X7 dv_7 (by repeat (first | exact hZ.w (Nat.le_of_ble_eq_true rfl) | refine Zr_r ?_ (Nat.le_of_ble_eq_true rfl) | refine Zr_s ?_ (Nat.le_of_ble_eq_true rfl) | refine Zr_i ?_ (Nat.le_of_ble_eq_true rfl) | refine Zr_kt ?_ (Nat.le_of_ble_eq_true rfl))) (Nat.le_of_ble_eq_true rfl) (Nat.le_of_ble_eq_true rfl) ?_
  refine r_dup rfl dX10_init_128 ?_
  refine r_iload_n 0 rfl dX10_init_129 ?_
  refine r_aload_n 2 rfl dX10_init_130 ?_
  refine r_getr (b := 43) dX10_init_131 fl_X10_35 rfl (by simp [u2, sr]) ?_
  refine r_aload_n 2 rfl dX10_init_134 ?_
  refine r_getr (b := 57) dX10_init_135 fl_X10_42 rfl (by simp [u2, sr]) ?_
  refine r_aload_n 1 rfl dX10_init_138 ?_
  refine r_callI (rt' := none) (a := 110) (as := [.int 3, .ref 43, .ref 57, .ref 86]) dX10_init_139 lk_X10_71 mb_X7_init in_X7_init rfl (ci_X7_110 hOV (by repeat (first | exact hZ.w (Nat.le_of_ble_eq_true rfl) | refine Zr_r ?_ (Nat.le_of_ble_eq_true rfl) | refine Zr_s ?_ (Nat.le_of_ble_eq_true rfl) | refine Zr_i ?_ (Nat.le_of_ble_eq_true rfl) | refine Zr_kt ?_ (Nat.le_of_ble_eq_true rfl)))) rfl rfl (Nat.le_of_ble_eq_true rfl) rfl (fun zr zA zB zC zq => ?_)
  obtain ⟨rfl, rfl, rfl, rfl⟩ := zq
  refine r_aastO (kd := 17) (ci := 7) dX10_init_142 rfl (by decide) rfl (by decide) rfl rfl (vpk (k := 3) (by decide) (by decide) rfl) ?_
  refine r_iinc (v := 4) (ls2 := [(2, .int 4), (1, .ref 86), (0, .ref 0)]) 0 dX10_init_143 rfl (by decide) (by decide) rfl ?_
  refine r_goto (tgt := 115) dX10_init_146 (by decide) ?_
  refine r_iload_n 0 rfl dX10_init_115 ?_
  refine r_iconst (v := 5) rfl dX10_init_116 ?_
  refine r_icmpge (tgt := 149) dX10_init_117 (by decide) (fun zh => ?_) (fun zh => ?_)
  · exact absurd zh (by decide)
  refine r_aload_n 2 rfl dX10_init_120 ?_
  refine r_getr (b := 59) dX10_init_121 fl_X10_48 rfl (by simp [u2, sr]) ?_
  refine r_iload_n 0 rfl dX10_init_124 ?_
  refine r_new (k0 := 117) dX10_init_125 rfl cl_7 (by decide) nl_X10_46 ni_X7 ii_X7 dv_7 (by repeat (first | exact hZ.w (Nat.le_of_ble_eq_true rfl) | refine Zr_r ?_ (Nat.le_of_ble_eq_true rfl) | refine Zr_s ?_ (Nat.le_of_ble_eq_true rfl) | refine Zr_i ?_ (Nat.le_of_ble_eq_true rfl) | refine Zr_kt ?_ (Nat.le_of_ble_eq_true rfl))) (Nat.le_of_ble_eq_true rfl) (Nat.le_of_ble_eq_true rfl) ?_
  refine r_dup rfl dX10_init_128 ?_
  refine r_iload_n 0 rfl dX10_init_129 ?_
  refine r_aload_n 2 rfl dX10_init_130 ?_
  refine r_getr (b := 43) dX10_init_131 fl_X10_35 rfl (by simp [u2, sr]) ?_
  refine r_aload_n 2 rfl dX10_init_134 ?_
  refine r_getr (b := 57) dX10_init_135 fl_X10_42 rfl (by simp [u2, sr]) ?_
  refine r_aload_n 1 rfl dX10_init_138 ?_
  refine r_callI (rt' := none) (a := 117) (as := [.int 4, .ref 43, .ref 57, .ref 86]) dX10_init_139 lk_X10_71 mb_X7_init in_X7_init rfl (ci_X7_117 hOV (by repeat (first | exact hZ.w (Nat.le_of_ble_eq_true rfl) | refine Zr_r ?_ (Nat.le_of_ble_eq_true rfl) | refine Zr_s ?_ (Nat.le_of_ble_eq_true rfl) | refine Zr_i ?_ (Nat.le_of_ble_eq_true rfl) | refine Zr_kt ?_ (Nat.le_of_ble_eq_true rfl)))) rfl rfl (Nat.le_of_ble_eq_true rfl) rfl (fun zr zA zB zC zq => ?_)
  obtain ⟨rfl, rfl, rfl, rfl⟩ := zq
  refine r_aastO (kd := 17) (ci := 7) dX10_init_142 rfl (by decide) rfl (by decide) rfl rfl (vpk (k := 4) (by decide) (by decide) rfl) ?_
  refine r_iinc (v := 5) (ls2 := [(2, .int 5), (1, .ref 86), (0, .ref 0)]) 0 dX10_init_143 rfl (by decide) (by decide) rfl ?_
  refine r_goto (tgt := 115) dX10_init_146 (by decide) ?_
  refine r_iload_n 0 rfl dX10_init_115 ?_
  refine r_iconst (v := 5) rfl dX10_init_116 ?_
  refine r_icmpge (tgt := 149) dX10_init_117 (by decide) (fun zh => ?_) (fun zh => ?_)
  rotate_left
  · exact absurd zh (by decide)
  exact r_vret hG dX10_init_149 ⟨rfl, rfl, rfl, rfl⟩

/-! Cubes: its table -/
def ktS : Nat → Nat → Int64 → Int64
  | 0, _, a => a
  | d + 1, c, a => ktS d (c / 3) (if c % 3 = 1 then a &&& onesL.getD d 0 else if c % 3 = 0 then a &&& (onesL.getD d 0 ^^^ (-1)) else a)
def ktb (c : Nat) : Int64 := ktS 6 c (-1)
def ktM (i : Nat) (ML : Nat → Nat → Int64) : Nat → Nat → Int64 := fun b j => if b = 58 ∧ j < i then ktb j else ML b j
theorem d3 : ∀ c, c < 729 → nI c / 3 = nI (c / 3) := by decide +kernel
theorem m3 : ∀ c, c < 729 → nI c - nI c / 3 * 3 = nI (c % 3) := by decide +kernel
def dm (d : Nat) : Int32 := nI d - 1
theorem dm_s (d : Nat) : dm (d + 1) = nI d := nI_m1
theorem d6_nn : ∀ d, d < 6 → ¬ nI d < 0 := by decide
theorem t3_i {c : Nat} : (nI (c % 3) = 1 ↔ c % 3 = 1) ∧ (nI (c % 3) = 0 ↔ c % 3 = 0) := by
  have h : ∀ r, r < 3 → (nI r = 1 ↔ r = 1) ∧ (nI r = 0 ↔ r = 0) := by decide
  exact h _ (Nat.mod_lt _ (by decide))
theorem ktM_s {i : Nat} {ML : Nat → Nat → Int64} : u2 (ktM i ML) 58 i (ktb i) = ktM (i + 1) ML := by
  funext b j
  simp only [u2, ktM]
  by_cases hb : b = 58
  · by_cases hj : j = i
    · subst hj
      have h1 : j < j + 1 := by omega
      simp [hb, h1]
    · by_cases hl : j < i
      · have h1 : j < i + 1 := by omega
        simp [hb, hj, hl, h1]
      · have h1 : ¬ j < i + 1 := by omega
        simp [hb, hj, hl, h1]
  · simp [hb]
theorem Zr_kt {k i : Nat} {MI : Nat → Nat → Int32} {ML : Nat → Nat → Int64} {MR : Nat → Nat → Option Nat} (h : Zr k MI ML MR) (ha : 58 < k) : Zr k MI (ktM i ML) MR := fun b hb j => ⟨(h b hb j).1, by unfold ktM; rw [if_neg (show ¬ (b = 58 ∧ j < i) by omega)]; exact (h b hb j).2.1, (h b hb j).2.2⟩
set_option maxRecDepth 100000 in
theorem ci_X2_57 {X : xG} {MI : Nat → Nat → Int32} {ML : Nat → Nat → Int64} {MR : Nat → Nat → Option Nat} (hSt : x_St X) (hOV : x_OV X) (hZ : Zr 58 MI ML MR) : Ct X yX2_init cX2_init 7 none 1 1 729 [.ref 57] 59 (SH.take 58) MI ML MR 60 (SH.take 59) (fun r MI' ML' MR' => r = none ∧ MI' = MI ∧ ML' = ktM 729 ML ∧ MR' = u2 MR 57 0 (some 58)) := by
  refine Ct_of (by decide) (Nat.le_of_ble_eq_true rfl) (fun G hG => ?_)
  have hmn : G.2.2.2.2.2.2.2.2.2.1 = "<init>" := x_GI_mn hG
  have loop : ∀ i, i ≤ 729 → RW X G RX2 cX2_init 7 (x_rm 1 1 729) 60 (SH.take 59) MI (ktM i ML) (u2 MR 57 0 (some 58)) 1 729 15 [(1, .int (nI i)), (0, .ref 57)] [] := by
    refine bwd (fun i hi ih => ?_)
    have inner : i < 729 → ∀ d, d ≤ 6 → ∀ c a, c < 729 → ktS d c a = ktb i → RW X G RX2 cX2_init 7 (x_rm 1 1 729) 60 (SH.take 59) MI (ktM i ML) (u2 MR 57 0 (some 58)) 1 729 32 [(5, .int (dm d)), (4, .int (nI c)), (2, .long a), (1, .int (nI i)), (0, .ref 57)] [] := by
      intro hlt d
      induction d with
      | zero =>
        intro _ c a hc hT
        refine r_iload 0 rfl dX2_init_32 ?_
        refine r_iflt (tgt := 91) dX2_init_34 (by decide) (fun zh34 => ?_) (fun zh34 => ?_)
        rotate_left
        · exact absurd zh34 (fun z => z (by decide))
        refine r_aload_n 4 rfl dX2_init_91 ?_
        refine r_getr dX2_init_92 fl_X2_9 rfl (u2_eq _ _ _ _) ?_
        refine r_iload_n 3 rfl dX2_init_95 ?_
        refine r_lload_n 2 rfl dX2_init_96 ?_
        refine r_last dX2_init_97 rfl (vp_in_nI hlt (by decide)) ?_
        refine r_iinc (v := (nI (i + 1))) (ls2 := [(1, .int (nI (i + 1))), (5, .int (dm 0)), (4, .int (nI c)), (2, .long a), (0, .ref 57)]) 3 dX2_init_98 rfl (x_inc i) (by decide) rfl ?_
        refine r_goto (tgt := 15) dX2_init_101 (by decide) ?_
        refine r_sub [0, 4] rfl ?_
        refine r_mem rfl ?_ rfl (ih hlt)
        rw [nI_clamp (by omega), show a = ktb i from hT]
        exact ktM_s
      | succ d ihd =>
        intro hd c a hc hT
        rw [dm_s d]
        have hcl : (nI d).toNatClampNeg = d := nI_clamp (by omega)
        refine r_iload 0 rfl dX2_init_32 ?_
        refine r_iflt (tgt := 91) dX2_init_34 (by decide) (fun zh34 => ?_) (fun zh34 => ?_)
        · exact absurd zh34 (d6_nn d (by omega))
        refine r_iload 1 rfl dX2_init_37 ?_
        refine r_iconst (v := 3) rfl dX2_init_39 ?_
        refine r_irem (by decide) dX2_init_40 ?_
        rw [m3 c hc]
        refine r_istore (ls2 := [(6, .int (nI (c % 3))), (5, .int (nI d)), (4, .int (nI c)), (2, .long a), (1, .int (nI i)), (0, .ref 57)]) dX2_init_41 (by decide) rfl ?_
        refine r_iload 2 rfl dX2_init_43 ?_
        refine r_iconst (v := 3) rfl dX2_init_45 ?_
        refine r_idiv (by decide) dX2_init_46 ?_
        rw [d3 c hc]
        refine r_istore (ls2 := [(4, .int (nI (c / 3))), (6, .int (nI (c % 3))), (5, .int (nI d)), (2, .long a), (1, .int (nI i)), (0, .ref 57)]) dX2_init_47 (by decide) rfl ?_
        refine r_iload 1 rfl dX2_init_49 ?_
        refine r_iconst (v := 1) rfl dX2_init_51 ?_
        refine r_icmpne (tgt := 67) dX2_init_52 (by decide) (fun zh52 => ?_) (fun zh52 => ?_)
        · refine r_iload 1 rfl dX2_init_67 ?_
          refine r_ifne (tgt := 85) dX2_init_69 (by decide) (fun zh69 => ?_) (fun zh69 => ?_)
          · refine r_iinc (v := (dm d)) (ls2 := [(5, .int (dm d)), (4, .int (nI (c / 3))), (6, .int (nI (c % 3))), (2, .long a), (1, .int (nI i)), (0, .ref 57)]) 2 dX2_init_85 rfl (nI_d1 _) (by decide) rfl ?_
            refine r_goto (tgt := 32) dX2_init_88 (by decide) ?_
            refine r_sub [0, 1, 3, 4, 5] rfl (ihd (by omega) _ _ (by omega) ?_)
            rw [← hT]
            show ktS d (c / 3) a = ktS d (c / 3) _
            congr 1
            first
              | (have e1 := t3_i.1.mp zh52
                 rw [if_pos e1, ← hcl]
                 first | exact ze63 | exact ze63.symm)
              | (have e1 : ¬ c % 3 = 1 := fun z => zh52 (t3_i.1.mpr z)
                 rw [if_neg e1]
                 first
                   | (have e2 := t3_i.2.mp zh69
                      rw [if_pos e2, ← hcl]
                      first | exact ze84 | exact ze84.symm)
                   | (have e2 : ¬ c % 3 = 0 := fun z => zh69 (t3_i.2.mpr z)
                      rw [if_neg e2]))
          · refine r_lload_n 3 rfl dX2_init_72 ?_
            refine r_gets hSt dX2_init_73 fs_X2_17 ?_
            refine r_iload 2 rfl dX2_init_76 ?_
            refine r_stald hSt dX2_init_78 (vp_in_nI (show d < 6 by omega) (by decide)) ?_
            refine r_ldc2 kl_X2_15 dX2_init_79 ?_
            refine r_lxor dX2_init_82 ?_
            refine r_land dX2_init_83 ?_
            refine r_nml (fun zv84 ze84 => ?_)
            refine r_lstore_n (ls2 := [(2, .long zv84), (4, .int (nI (c / 3))), (6, .int (nI (c % 3))), (5, .int (nI d)), (1, .int (nI i)), (0, .ref 57)]) dX2_init_84 (by decide) rfl ?_
            refine r_iinc (v := (dm d)) (ls2 := [(5, .int (dm d)), (2, .long zv84), (4, .int (nI (c / 3))), (6, .int (nI (c % 3))), (1, .int (nI i)), (0, .ref 57)]) 3 dX2_init_85 rfl (nI_d1 _) (by decide) rfl ?_
            refine r_goto (tgt := 32) dX2_init_88 (by decide) ?_
            refine r_sub [0, 2, 1, 4, 5] rfl (ihd (by omega) _ _ (by omega) ?_)
            rw [← hT]
            show ktS d (c / 3) zv84 = ktS d (c / 3) _
            congr 1
            first
              | (have e1 := t3_i.1.mp zh52
                 rw [if_pos e1, ← hcl]
                 first | exact ze63 | exact ze63.symm)
              | (have e1 : ¬ c % 3 = 1 := fun z => zh52 (t3_i.1.mpr z)
                 rw [if_neg e1]
                 first
                   | (have e2 := t3_i.2.mp zh69
                      rw [if_pos e2, ← hcl]
                      first | exact ze84 | exact ze84.symm)
                   | (have e2 : ¬ c % 3 = 0 := fun z => zh69 (t3_i.2.mpr z)
                      rw [if_neg e2]))
        · refine r_lload_n 3 rfl dX2_init_55 ?_
          refine r_gets hSt dX2_init_56 fs_X2_17 ?_
          refine r_iload 2 rfl dX2_init_59 ?_
          refine r_stald hSt dX2_init_61 (vp_in_nI (show d < 6 by omega) (by decide)) ?_
          refine r_land dX2_init_62 ?_
          refine r_nml (fun zv63 ze63 => ?_)
          refine r_lstore_n (ls2 := [(2, .long zv63), (4, .int (nI (c / 3))), (6, .int (nI (c % 3))), (5, .int (nI d)), (1, .int (nI i)), (0, .ref 57)]) dX2_init_63 (by decide) rfl ?_
          refine r_goto (tgt := 85) dX2_init_64 (by decide) ?_
          refine r_iinc (v := (dm d)) (ls2 := [(5, .int (dm d)), (2, .long zv63), (4, .int (nI (c / 3))), (6, .int (nI (c % 3))), (1, .int (nI i)), (0, .ref 57)]) 3 dX2_init_85 rfl (nI_d1 _) (by decide) rfl ?_
          refine r_goto (tgt := 32) dX2_init_88 (by decide) ?_
          refine r_sub [0, 2, 1, 4, 5] rfl (ihd (by omega) _ _ (by omega) ?_)
          rw [← hT]
          show ktS d (c / 3) zv63 = ktS d (c / 3) _
          congr 1
          first
            | (have e1 := t3_i.1.mp zh52
               rw [if_pos e1, ← hcl]
               first | exact ze63 | exact ze63.symm)
            | (have e1 : ¬ c % 3 = 1 := fun z => zh52 (t3_i.1.mpr z)
               rw [if_neg e1]
               first
                 | (have e2 := t3_i.2.mp zh69
                    rw [if_pos e2, ← hcl]
                    first | exact ze84 | exact ze84.symm)
                 | (have e2 : ¬ c % 3 = 0 := fun z => zh69 (t3_i.2.mpr z)
                    rw [if_neg e2]))
    refine r_iload_n 0 rfl dX2_init_15 ?_
    refine r_sipush (v := 729) rfl dX2_init_16 ?_
    refine r_icmpge (tgt := 104) dX2_init_19 (by decide) (fun zh19 => ?_) (fun zh19 => ?_)
    · obtain rfl : i = 729 := by have := geL (k := 729) (by decide) (by omega) zh19; omega
      exact r_vret hG dX2_init_104 (⟨rfl, rfl, rfl, rfl⟩)
    · have hlt : i < 729 := ltL (by omega) zh19
      refine r_ldc2 kl_X2_15 dX2_init_22 ?_
      refine r_lstore_n (ls2 := [(2, .long (-1)), (1, .int (nI i)), (0, .ref 57)]) dX2_init_25 (by decide) rfl ?_
      refine r_iload_n 1 rfl dX2_init_26 ?_
      refine r_nmi (fun zv27 ze27 => ?_)
      refine r_istore (ls2 := [(4, .int zv27), (2, .long (-1)), (1, .int (nI i)), (0, .ref 57)]) dX2_init_27 (by decide) rfl ?_
      refine r_iconst (v := 5) rfl dX2_init_29 ?_
      refine r_istore (ls2 := [(5, .int 5), (4, .int zv27), (2, .long (-1)), (1, .int (nI i)), (0, .ref 57)]) dX2_init_30 (by decide) rfl ?_
      subst ze27
      have h6 := inner hlt 6 (by decide) i (-1) hlt rfl
      rw [show dm 6 = 5 from by decide] at h6
      exact r_sub [0, 1, 2, 3, 4] rfl h6
  refine r_aload_n 0 rfl dX2_init_0 ?_
  refine r_obj dX2_init_1 ol_X2_3 (Nat.le_of_ble_eq_true rfl) (Nat.le_of_ble_eq_true rfl) ?_
  refine r_aload_n 0 rfl dX2_init_4 ?_
  refine r_sipush (v := 729) rfl dX2_init_5 ?_
  refine r_newa (k0 := 58) (kd := 14) (N := 729) dX2_init_8 rfl (by decide) na_long rfl ac_l (by decide) (by decide) (Nat.le_of_ble_eq_true rfl) hZ (Nat.le_of_ble_eq_true rfl) (Nat.le_of_ble_eq_true rfl) ?_
  refine r_putrF dX2_init_10 fl_X2_9 rfl rfl rfl hmn rfl ?_
  refine r_iconst (v := 0) rfl dX2_init_13 ?_
  refine r_istore_n (ls2 := [(1, .int 0), (0, .ref 57)]) dX2_init_14 (by decide) rfl ?_
  refine r_mem rfl ?_ rfl (loop 0 (by decide))
  funext b k
  unfold ktM
  rw [if_neg (by omega)]
theorem ktb_ok : tabOK ktb := by
  have h : (List.range 729).all (fun c => (List.range 64).all (fun p => gb (ktb c) p == cin c p)) = true := by decide +kernel
  intro c hc p hp
  have h1 := List.all_eq_true.mp h c (List.mem_range.mpr hc)
  exact eq_of_beq (List.all_eq_true.mp h1 p (List.mem_range.mpr hp))

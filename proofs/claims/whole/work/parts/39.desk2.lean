/-! the desk: arcs, gates, points, the walk, acts -/
section desk2
variable {X : xG} {n : Nat} {MI : Nat → Nat → Int32} {ML : Nat → Nat → Int64} {MR : Nat → Nat → Option Nat}
theorem inRN {N : Nat} (hN : N + 1 < 2 ^ 31) {y : Int32} : inR y (nI (N + 1)) = true ↔ ¬ y < 0 ∧ y ≤ nI N := by
  rw [inR_t]
  constructor
  · intro h
    refine ⟨h.1, ?_⟩
    obtain ⟨j, hj, rfl⟩ := inR_ex (N := N + 1) hN h.1 h.2
    exact nI_le (by omega) (by omega)
  · intro h
    refine ⟨h.1, fun q => ?_⟩
    obtain ⟨j, hj, rfl⟩ := nI_of2 (n := N) (nI_toInt (by omega)) h.1 h.2
    exact absurd (geL (k := N + 1) hN (by omega) q) (by omega)
def arAns (MI : Nat → Nat → Int32) (x y : Int32) : Int32 × Int32 := if inR x (MI 1 6) = true ∧ inR y 7 = true then (if y = 6 then ((if inR x 8 = true ∧ ¬ MI 47 x.toNatClampNeg = 0 then 1 else 0), 0) else (partV MI 1 x y, 0)) else (-1, 1)
set_option maxRecDepth 100000 in
theorem c_X10_arc (hM : x_Lay MR) {x y : Int32} : Cf X yX10_arc cX10_arc 3 (some .int) 2 [.ref 0, .int x, .int y] n SH MI ML MR (some (.int (arAns MI x y).1)) (ansM MI (arAns MI x y).2) ML MR := by
  refine Ct_of (by decide) (Nat.le_of_ble_eq_true rfl) (fun G hG => ?_)
  have no : ¬ (inR x (MI 1 6) = true ∧ inR y 7 = true) → arAns MI x y = (-1, 1) := fun h => if_neg h
  have yes : inR x (MI 1 6) = true → inR y 7 = true → arAns MI x y = (if y = 6 then ((if inR x 8 = true ∧ ¬ MI 47 x.toNatClampNeg = 0 then 1 else 0), 0) else (partV MI 1 x y, 0)) := fun h1 h2 => if_pos ⟨h1, h2⟩
  refine r_aload_n 0 rfl dX10_arc_0 ?_
  refine r_iload_n 1 rfl dX10_arc_1 ?_
  refine r_Vf [.int _] dX10_arc_2 lk_X10_153 mb_X10_hasArc in_X10_hasArc se_X10_hasArc rfl (c_X10_hasArc hM) rfl rfl rfl (Nat.le_of_ble_eq_true rfl) (rfl) ?_
  refine r_ifeq (tgt := 18) dX10_arc_5 (by decide) (fun zh5 => ?_) (fun zh5 => ?_)
  · refine r_aload_n 0 rfl dX10_arc_18 ?_
    refine r_iconst (v := 1) rfl dX10_arc_19 ?_
    refine r_Vf [.int _] dX10_arc_20 lk_X10_86 mb_X10_refuse in_X10_refuse se_X10_refuse rfl (c_X10_refuse) rfl rfl rfl (Nat.le_of_ble_eq_true rfl) (rfl) ?_
    exact r_iret hG dX10_arc_23 (by have hn := no (fun z => by have z2 := (inRN (N := 6) (by decide)).mp z.2; first | (rw [if_pos z.1] at zh5; exact absurd zh5 (by decide)) | exact z2.1 zh9 | exact zh15 z2.2); rw [hn]; exact ⟨rfl, rfl, rfl, rfl⟩)
  · refine r_iload_n 2 rfl dX10_arc_8 ?_
    refine r_iflt (tgt := 18) dX10_arc_9 (by decide) (fun zh9 => ?_) (fun zh9 => ?_)
    · refine r_aload_n 0 rfl dX10_arc_18 ?_
      refine r_iconst (v := 1) rfl dX10_arc_19 ?_
      refine r_Vf [.int _] dX10_arc_20 lk_X10_86 mb_X10_refuse in_X10_refuse se_X10_refuse rfl (c_X10_refuse) rfl rfl rfl (Nat.le_of_ble_eq_true rfl) (rfl) ?_
      exact r_iret hG dX10_arc_23 (by have hn := no (fun z => by have z2 := (inRN (N := 6) (by decide)).mp z.2; first | (rw [if_pos z.1] at zh5; exact absurd zh5 (by decide)) | exact z2.1 zh9 | exact zh15 z2.2); rw [hn]; exact ⟨rfl, rfl, rfl, rfl⟩)
    · refine r_iload_n 2 rfl dX10_arc_12 ?_
      refine r_bipush (v := 6) rfl dX10_arc_13 ?_
      refine r_icmple (tgt := 24) dX10_arc_15 (by decide) (fun zh15 => ?_) (fun zh15 => ?_)
      · have hy := yes (by simpa using zh5) ((inRN (N := 6) (by decide)).mpr ⟨zh9, zh15⟩)
        refine r_iload_n 2 rfl dX10_arc_24 ?_
        refine r_bipush (v := 6) rfl dX10_arc_25 ?_
        refine r_icmpne (tgt := 51) dX10_arc_27 (by decide) (fun zh27 => ?_) (fun zh27 => ?_)
        · refine r_aload_n 0 rfl dX10_arc_51 ?_
          refine r_aload_n 0 rfl dX10_arc_52 ?_
          refine r_getr dX10_arc_53 fl_X10_10 rfl (hM _ _ _ rfl) ?_
          refine r_iload_n 1 rfl dX10_arc_56 ?_
          refine r_iload_n 2 rfl dX10_arc_57 ?_
          refine r_Vf [.int _, .int _] dX10_arc_58 lk_X10_159 mb_X5_part in_X5_part se_X5_part rfl (c_X5_part_1 hM) rfl rfl rfl (Nat.le_of_ble_eq_true rfl) (rfl) ?_
          refine r_Vf [.int _] dX10_arc_61 lk_X10_115 mb_X10_told in_X10_told se_X10_told rfl (c_X10_told) rfl rfl rfl (Nat.le_of_ble_eq_true rfl) (rfl) ?_
          exact r_iret hG dX10_arc_64 (by rw [if_neg zh27] at hy; rw [hy]; exact ⟨rfl, rfl, rfl, rfl⟩)
        · refine r_aload_n 0 rfl dX10_arc_30 ?_
          refine r_aload_n 0 rfl dX10_arc_31 ?_
          refine r_getr dX10_arc_32 fl_X10_35 rfl (hM _ _ _ rfl) ?_
          refine r_iload_n 1 rfl dX10_arc_35 ?_
          refine r_Vf [.int _] dX10_arc_36 lk_X10_156 mb_X8_wasGoneAlong in_X8_wasGoneAlong se_X8_wasGoneAlong rfl (c_X8_wasGoneAlong hM) rfl rfl rfl (Nat.le_of_ble_eq_true rfl) (rfl) ?_
          refine r_ifeq (tgt := 46) dX10_arc_39 (by decide) (fun zh39 => ?_) (fun zh39 => ?_)
          · refine r_iconst (v := 0) rfl dX10_arc_46 ?_
            refine r_Vf [.int _] dX10_arc_47 lk_X10_115 mb_X10_told in_X10_told se_X10_told rfl (c_X10_told) rfl rfl rfl (Nat.le_of_ble_eq_true rfl) (rfl) ?_
            exact r_iret hG dX10_arc_50 (by rw [if_pos zh27] at hy; rw [hy]; first | (refine ⟨?_, rfl, rfl, rfl⟩; rw [if_pos (Classical.not_not.mp fun z => zh39 (by rw [if_neg z]))]; done) | (refine ⟨?_, rfl, rfl, rfl⟩; rw [if_neg (fun z => by rw [if_pos z] at zh39; exact absurd zh39 (by decide))]))
          · refine r_iconst (v := 1) rfl dX10_arc_42 ?_
            refine r_goto (tgt := 47) dX10_arc_43 (by decide) ?_
            refine r_Vf [.int _] dX10_arc_47 lk_X10_115 mb_X10_told in_X10_told se_X10_told rfl (c_X10_told) rfl rfl rfl (Nat.le_of_ble_eq_true rfl) (rfl) ?_
            exact r_iret hG dX10_arc_50 (by rw [if_pos zh27] at hy; rw [hy]; first | (refine ⟨?_, rfl, rfl, rfl⟩; rw [if_pos (Classical.not_not.mp fun z => zh39 (by rw [if_neg z]))]; done) | (refine ⟨?_, rfl, rfl, rfl⟩; rw [if_neg (fun z => by rw [if_pos z] at zh39; exact absurd zh39 (by decide))]))
      · refine r_aload_n 0 rfl dX10_arc_18 ?_
        refine r_iconst (v := 1) rfl dX10_arc_19 ?_
        refine r_Vf [.int _] dX10_arc_20 lk_X10_86 mb_X10_refuse in_X10_refuse se_X10_refuse rfl (c_X10_refuse) rfl rfl rfl (Nat.le_of_ble_eq_true rfl) (rfl) ?_
        exact r_iret hG dX10_arc_23 (by have hn := no (fun z => by have z2 := (inRN (N := 6) (by decide)).mp z.2; first | (rw [if_pos z.1] at zh5; exact absurd zh5 (by decide)) | exact z2.1 zh9 | exact zh15 z2.2); rw [hn]; exact ⟨rfl, rfl, rfl, rfl⟩)
def gtAns (MI : Nat → Nat → Int32) (x y : Int32) : Int32 × Int32 := if inR x (MI 1 8) = true ∧ inR y 2 = true then (pickV (MI (if y = 0 then 12 else 13)) 16 x, 0) else (-1, 1)
set_option maxRecDepth 100000 in
theorem c_X10_gate (hM : x_Lay MR) {x y : Int32} : Cf X yX10_gate cX10_gate 3 (some .int) 2 [.ref 0, .int x, .int y] n SH MI ML MR (some (.int (gtAns MI x y).1)) (ansM MI (gtAns MI x y).2) ML MR := by
  refine Ct_of (by decide) (Nat.le_of_ble_eq_true rfl) (fun G hG => ?_)
  have no : ¬ (inR x (MI 1 8) = true ∧ inR y 2 = true) → gtAns MI x y = (-1, 1) := fun h => if_neg h
  have yes : inR x (MI 1 8) = true → inR y 2 = true → gtAns MI x y = (pickV (MI (if y = 0 then 12 else 13)) 16 x, 0) := fun h1 h2 => if_pos ⟨h1, h2⟩
  refine r_iload_n 1 rfl dX10_gate_0 ?_
  refine r_iflt (tgt := 24) dX10_gate_1 (by decide) (fun zh1 => ?_) (fun zh1 => ?_)
  · refine r_aload_n 0 rfl dX10_gate_24 ?_
    refine r_iconst (v := 1) rfl dX10_gate_25 ?_
    refine r_Vf [.int _] dX10_gate_26 lk_X10_86 mb_X10_refuse in_X10_refuse se_X10_refuse rfl (c_X10_refuse) rfl rfl rfl (Nat.le_of_ble_eq_true rfl) (rfl) ?_
    exact r_iret hG dX10_gate_29 (by have hn := no (fun z => by have z1 := inR_t.mp z.1; have z2 := (inRN (N := 1) (by decide)).mp z.2; first | exact z1.1 zh1 | exact z1.2 zh12 | exact z2.1 zh16 | exact zh21 z2.2); rw [hn]; exact ⟨rfl, rfl, rfl, rfl⟩)
  · refine r_iload_n 1 rfl dX10_gate_4 ?_
    refine r_aload_n 0 rfl dX10_gate_5 ?_
    refine r_getr dX10_gate_6 fl_X10_10 rfl (hM _ _ _ rfl) ?_
    refine r_geti dX10_gate_9 fl_X10_163 rfl ?_
    refine r_icmpge (tgt := 24) dX10_gate_12 (by decide) (fun zh12 => ?_) (fun zh12 => ?_)
    · refine r_aload_n 0 rfl dX10_gate_24 ?_
      refine r_iconst (v := 1) rfl dX10_gate_25 ?_
      refine r_Vf [.int _] dX10_gate_26 lk_X10_86 mb_X10_refuse in_X10_refuse se_X10_refuse rfl (c_X10_refuse) rfl rfl rfl (Nat.le_of_ble_eq_true rfl) (rfl) ?_
      exact r_iret hG dX10_gate_29 (by have hn := no (fun z => by have z1 := inR_t.mp z.1; have z2 := (inRN (N := 1) (by decide)).mp z.2; first | exact z1.1 zh1 | exact z1.2 zh12 | exact z2.1 zh16 | exact zh21 z2.2); rw [hn]; exact ⟨rfl, rfl, rfl, rfl⟩)
    · refine r_iload_n 2 rfl dX10_gate_15 ?_
      refine r_iflt (tgt := 24) dX10_gate_16 (by decide) (fun zh16 => ?_) (fun zh16 => ?_)
      · refine r_aload_n 0 rfl dX10_gate_24 ?_
        refine r_iconst (v := 1) rfl dX10_gate_25 ?_
        refine r_Vf [.int _] dX10_gate_26 lk_X10_86 mb_X10_refuse in_X10_refuse se_X10_refuse rfl (c_X10_refuse) rfl rfl rfl (Nat.le_of_ble_eq_true rfl) (rfl) ?_
        exact r_iret hG dX10_gate_29 (by have hn := no (fun z => by have z1 := inR_t.mp z.1; have z2 := (inRN (N := 1) (by decide)).mp z.2; first | exact z1.1 zh1 | exact z1.2 zh12 | exact z2.1 zh16 | exact zh21 z2.2); rw [hn]; exact ⟨rfl, rfl, rfl, rfl⟩)
      · refine r_iload_n 2 rfl dX10_gate_19 ?_
        refine r_iconst (v := 1) rfl dX10_gate_20 ?_
        refine r_icmple (tgt := 30) dX10_gate_21 (by decide) (fun zh21 => ?_) (fun zh21 => ?_)
        · have hy := yes (inR_t.mpr ⟨zh1, zh12⟩) ((inRN (N := 1) (by decide)).mpr ⟨zh16, zh21⟩)
          refine r_aload_n 0 rfl dX10_gate_30 ?_
          refine r_iload_n 2 rfl dX10_gate_31 ?_
          refine r_ifne (tgt := 45) dX10_gate_32 (by decide) (fun zh32 => ?_) (fun zh32 => ?_)
          · refine r_aload_n 0 rfl dX10_gate_45 ?_
            refine r_getr dX10_gate_46 fl_X10_10 rfl (hM _ _ _ rfl) ?_
            refine r_getr dX10_gate_49 fl_X10_169 rfl (hM _ _ _ rfl) ?_
            refine r_iload_n 1 rfl dX10_gate_52 ?_
            refine r_Sf [.ref _, .int _] dX10_gate_53 lk_X10_140 mb_X10_pick sc_X10_pick rfl (c_X10_pick (N := 16) (by first | (exact (show SH[12]? = some (13, 16) from rfl)) | (exact (show SH[13]? = some (13, 16) from rfl))) (by decide)) rfl (Nat.le_of_ble_eq_true rfl) (rfl) ?_
            refine r_Vf [.int _] dX10_gate_56 lk_X10_115 mb_X10_told in_X10_told se_X10_told rfl (c_X10_told) rfl rfl rfl (Nat.le_of_ble_eq_true rfl) (rfl) ?_
            exact r_iret hG dX10_gate_59 (by first | (rw [if_pos zh32] at hy; rw [hy]; exact ⟨rfl, rfl, rfl, rfl⟩) | (rw [if_neg zh32] at hy; rw [hy]; exact ⟨rfl, rfl, rfl, rfl⟩))
          · refine r_aload_n 0 rfl dX10_gate_35 ?_
            refine r_getr dX10_gate_36 fl_X10_10 rfl (hM _ _ _ rfl) ?_
            refine r_getr dX10_gate_39 fl_X10_166 rfl (hM _ _ _ rfl) ?_
            refine r_goto (tgt := 52) dX10_gate_42 (by decide) ?_
            refine r_iload_n 1 rfl dX10_gate_52 ?_
            refine r_Sf [.ref _, .int _] dX10_gate_53 lk_X10_140 mb_X10_pick sc_X10_pick rfl (c_X10_pick (N := 16) (by first | (exact (show SH[12]? = some (13, 16) from rfl)) | (exact (show SH[13]? = some (13, 16) from rfl))) (by decide)) rfl (Nat.le_of_ble_eq_true rfl) (rfl) ?_
            refine r_Vf [.int _] dX10_gate_56 lk_X10_115 mb_X10_told in_X10_told se_X10_told rfl (c_X10_told) rfl rfl rfl (Nat.le_of_ble_eq_true rfl) (rfl) ?_
            exact r_iret hG dX10_gate_59 (by first | (rw [if_pos zh32] at hy; rw [hy]; exact ⟨rfl, rfl, rfl, rfl⟩) | (rw [if_neg zh32] at hy; rw [hy]; exact ⟨rfl, rfl, rfl, rfl⟩))
        · refine r_aload_n 0 rfl dX10_gate_24 ?_
          refine r_iconst (v := 1) rfl dX10_gate_25 ?_
          refine r_Vf [.int _] dX10_gate_26 lk_X10_86 mb_X10_refuse in_X10_refuse se_X10_refuse rfl (c_X10_refuse) rfl rfl rfl (Nat.le_of_ble_eq_true rfl) (rfl) ?_
          exact r_iret hG dX10_gate_29 (by have hn := no (fun z => by have z1 := inR_t.mp z.1; have z2 := (inRN (N := 1) (by decide)).mp z.2; first | exact z1.1 zh1 | exact z1.2 zh12 | exact z2.1 zh16 | exact zh21 z2.2); rw [hn]; exact ⟨rfl, rfl, rfl, rfl⟩)
theorem funTr_ex {x : Int32} (h : funTr MI x = 0) : (∃ f, f < 5 ∧ x = nI f) ∧ machTr MI = 0 := by
  unfold funTr at h
  by_cases z : inR x 5 = true
  · rw [if_pos z] at h
    have hz := inR_t.mp z
    exact ⟨inR_ex (N := 5) (by decide) hz.1 hz.2, h⟩
  · rw [if_neg z] at h
    exact absurd h (by decide)
def bitA (z : Int64) (x : Int32) : Bool := decide (¬ (z.toUInt64 >>> (x.toInt64.toUInt64 &&& Int64.toUInt64 63)).toInt64 &&& 1 = 0)
def atAns (MI : Nat → Nat → Int32) (ML : Nat → Nat → Int64) (x y : Int32) : Int32 × Int32 := if funTr MI x = 0 then (if inR y 64 = true then ((if bitA (ML 49 x.toNatClampNeg) y = true then 0 else if bitA (ML 50 x.toNatClampNeg) y = true then 1 else 2), 0) else (-1, 2)) else (-1, funTr MI x)
set_option maxRecDepth 100000 in
theorem c_X10_at (hM : x_Lay MR) {x y : Int32} : Cf X yX10_at cX10_at 4 (some .int) 3 [.ref 0, .int x, .int y] n SH MI ML MR (some (.int (atAns MI ML x y).1)) (ansM MI (atAns MI ML x y).2) ML MR := by
  refine Ct_of (by decide) (Nat.le_of_ble_eq_true rfl) (fun G hG => ?_)
  have j22 : ∀ t, t = (if funTr MI x = 0 then (if inR y 64 = true then 0 else 2) else funTr MI x) → RW X G RX10 cX10_at 4 (x_rm 3 0 0) n SH MI ML MR 0 0 22 [(3, .int t), (0, .ref 0), (1, .int x), (2, .int y)] [] := by
    intro t ht
    by_cases h1 : funTr MI x = 0
    · obtain ⟨⟨f, hf, rfl⟩, -⟩ := funTr_ex h1
      have hin : inR (nI f) 5 = true := inR_nI hf (by decide)
      by_cases h2 : inR y 64 = true
      · rw [if_pos h1, if_pos h2] at ht
        have ha : atAns MI ML (nI f) y = ((if bitA (ML 49 (nI f).toNatClampNeg) y = true then 0 else if bitA (ML 50 (nI f).toNatClampNeg) y = true then 1 else 2), 0) := by unfold atAns; rw [if_pos h1, if_pos h2]
        rw [ha] at hG
        refine r_iload_n 0 rfl dX10_at_22 ?_
        refine r_ifeq (tgt := 32) dX10_at_23 (by decide) (fun zh23 => ?_) (fun zh23 => ?_)
        rotate_left
        · exact absurd zh23 (fun q => q ht)
        refine r_aload_n 1 rfl dX10_at_32 ?_
        refine r_getr dX10_at_33 fl_X10_35 rfl (hM _ _ _ rfl) ?_
        refine r_getr dX10_at_36 fl_X10_175 rfl (hM _ _ _ rfl) ?_
        refine r_iload_n 2 rfl dX10_at_39 ?_
        refine r_Vf [.int _] dX10_at_40 lk_X10_179 mb_X3_zerosOf in_X3_zerosOf se_X3_zerosOf rfl (c_X3_zerosOf (De48 hM)) rfl rfl rfl (Nat.le_of_ble_eq_true rfl) (rfl) ?_
        refine r_iload_n 3 rfl dX10_at_43 ?_
        refine r_lushr dX10_at_44 ?_
        refine r_lconst (v := 1) rfl dX10_at_45 ?_
        refine r_land dX10_at_46 ?_
        refine r_lconst (v := 0) rfl dX10_at_47 ?_
        refine r_lcmp dX10_at_48 ?_
        refine r_ifeq (tgt := 58) dX10_at_49 (by decide) (fun zh49 => ?_) (fun zh49 => ?_)
        · rw [if_pos hin, lcmp_eq] at zh49
          have hb : ¬ bitA (ML 49 (nI f).toNatClampNeg) y = true := fun q => of_decide_eq_true q zh49
          refine r_aload_n 1 rfl dX10_at_58 ?_
          refine r_aload_n 1 rfl dX10_at_59 ?_
          refine r_getr dX10_at_60 fl_X10_35 rfl (hM _ _ _ rfl) ?_
          refine r_getr dX10_at_63 fl_X10_175 rfl (hM _ _ _ rfl) ?_
          refine r_iload_n 2 rfl dX10_at_66 ?_
          refine r_Vf [.int _] dX10_at_67 lk_X10_185 mb_X3_onesOf in_X3_onesOf se_X3_onesOf rfl (c_X3_onesOf (De48 hM)) rfl rfl rfl (Nat.le_of_ble_eq_true rfl) (rfl) ?_
          refine r_iload_n 3 rfl dX10_at_70 ?_
          refine r_lushr dX10_at_71 ?_
          refine r_lconst (v := 1) rfl dX10_at_72 ?_
          refine r_land dX10_at_73 ?_
          refine r_lconst (v := 0) rfl dX10_at_74 ?_
          refine r_lcmp dX10_at_75 ?_
          refine r_ifeq (tgt := 83) dX10_at_76 (by decide) (fun zh76 => ?_) (fun zh76 => ?_)
          · refine r_iconst (v := 2) rfl dX10_at_83 ?_
            refine r_Vf [.int _] dX10_at_84 lk_X10_115 mb_X10_told in_X10_told se_X10_told rfl (c_X10_told) rfl rfl rfl (Nat.le_of_ble_eq_true rfl) (rfl) ?_
            exact r_iret hG dX10_at_87 (by rw [if_neg hb]; first | (rw [if_pos hin, lcmp_eq] at zh76; rw [if_neg (show ¬ bitA (ML 50 (nI f).toNatClampNeg) y = true from fun q => of_decide_eq_true q zh76)]; exact ⟨rfl, rfl, rfl, rfl⟩) | (rw [if_pos hin, lcmp_ne] at zh76; rw [if_pos (show bitA (ML 50 (nI f).toNatClampNeg) y = true from decide_eq_true zh76)]; exact ⟨rfl, rfl, rfl, rfl⟩))
          · refine r_iconst (v := 1) rfl dX10_at_79 ?_
            refine r_goto (tgt := 84) dX10_at_80 (by decide) ?_
            refine r_Vf [.int _] dX10_at_84 lk_X10_115 mb_X10_told in_X10_told se_X10_told rfl (c_X10_told) rfl rfl rfl (Nat.le_of_ble_eq_true rfl) (rfl) ?_
            exact r_iret hG dX10_at_87 (by rw [if_neg hb]; first | (rw [if_pos hin, lcmp_eq] at zh76; rw [if_neg (show ¬ bitA (ML 50 (nI f).toNatClampNeg) y = true from fun q => of_decide_eq_true q zh76)]; exact ⟨rfl, rfl, rfl, rfl⟩) | (rw [if_pos hin, lcmp_ne] at zh76; rw [if_pos (show bitA (ML 50 (nI f).toNatClampNeg) y = true from decide_eq_true zh76)]; exact ⟨rfl, rfl, rfl, rfl⟩))
        · rw [if_pos hin, lcmp_ne] at zh49
          have hb : bitA (ML 49 (nI f).toNatClampNeg) y = true := decide_eq_true zh49
          refine r_aload_n 1 rfl dX10_at_52 ?_
          refine r_iconst (v := 0) rfl dX10_at_53 ?_
          refine r_Vf [.int _] dX10_at_54 lk_X10_115 mb_X10_told in_X10_told se_X10_told rfl (c_X10_told) rfl rfl rfl (Nat.le_of_ble_eq_true rfl) (rfl) ?_
          exact r_iret hG dX10_at_57 (⟨by rw [if_pos hb], rfl, rfl, rfl⟩)
      · rw [if_pos h1, if_neg h2] at ht
        subst ht
        have ha : atAns MI ML (nI f) y = (-1, 2) := by unfold atAns; rw [if_pos h1, if_neg h2]
        rw [ha] at hG
        refine r_iload_n 0 rfl dX10_at_22 ?_
        refine r_ifeq (tgt := 32) dX10_at_23 (by decide) (fun zh23 => ?_) (fun zh23 => ?_)
        · exact absurd zh23 (fun q => absurd q (by decide))
        refine r_aload_n 1 rfl dX10_at_26 ?_
        refine r_iload_n 0 rfl dX10_at_27 ?_
        refine r_Vf [.int _] dX10_at_28 lk_X10_86 mb_X10_refuse in_X10_refuse se_X10_refuse rfl (c_X10_refuse) rfl rfl rfl (Nat.le_of_ble_eq_true rfl) (rfl) ?_
        exact r_iret hG dX10_at_31 (⟨rfl, rfl, rfl, rfl⟩)
    · rw [if_neg h1] at ht
      have ha : atAns MI ML x y = (-1, funTr MI x) := by unfold atAns; rw [if_neg h1]
      rw [ha, ← ht] at hG
      refine r_iload_n 0 rfl dX10_at_22 ?_
      refine r_ifeq (tgt := 32) dX10_at_23 (by decide) (fun zh23 => ?_) (fun zh23 => ?_)
      · exact absurd zh23 (fun q => h1 (ht ▸ q))
      refine r_aload_n 1 rfl dX10_at_26 ?_
      refine r_iload_n 0 rfl dX10_at_27 ?_
      refine r_Vf [.int _] dX10_at_28 lk_X10_86 mb_X10_refuse in_X10_refuse se_X10_refuse rfl (c_X10_refuse) rfl rfl rfl (Nat.le_of_ble_eq_true rfl) (rfl) ?_
      exact r_iret hG dX10_at_31 (⟨rfl, rfl, rfl, rfl⟩)
  refine r_aload_n 0 rfl dX10_at_0 ?_
  refine r_iload_n 1 rfl dX10_at_1 ?_
  refine r_Vf [.int _] dX10_at_2 lk_X10_172 mb_X10_functionTrouble in_X10_functionTrouble se_X10_functionTrouble rfl (c_X10_functionTrouble hM) rfl rfl rfl (Nat.le_of_ble_eq_true rfl) (rfl) ?_
  refine r_istore_n (ls2 := [(3, .int (funTr MI x)), (0, .ref 0), (1, .int x), (2, .int y)]) dX10_at_5 (by decide) rfl ?_
  refine r_iload_n 0 rfl dX10_at_6 ?_
  refine r_ifne (tgt := 22) dX10_at_7 (by decide) (fun zh7 => ?_) (fun zh7 => ?_)
  · first | exact j22 _ (by rw [if_neg zh7]) | exact j22 _ (by rw [if_pos zh7, if_neg (fun z => (inR_t.mp z).1 zh11)]) | exact j22 _ (by rw [if_pos zh7, if_neg (fun z => (inR_t.mp z).2 (Int32.not_lt.mp zh17))]) | exact j22 _ (by rw [if_pos zh7, if_pos (inR_t.mpr ⟨zh11, Int32.not_le.mpr zh17⟩)]; exact zh7)
  · refine r_iload_n 3 rfl dX10_at_10 ?_
    refine r_iflt (tgt := 20) dX10_at_11 (by decide) (fun zh11 => ?_) (fun zh11 => ?_)
    · refine r_iconst (v := 2) rfl dX10_at_20 ?_
      refine r_istore_n (ls2 := [(3, .int 2), (0, .ref 0), (1, .int x), (2, .int y)]) dX10_at_21 (by decide) rfl ?_
      first | exact j22 _ (by rw [if_neg zh7]) | exact j22 _ (by rw [if_pos zh7, if_neg (fun z => (inR_t.mp z).1 zh11)]) | exact j22 _ (by rw [if_pos zh7, if_neg (fun z => (inR_t.mp z).2 (Int32.not_lt.mp zh17))]) | exact j22 _ (by rw [if_pos zh7, if_pos (inR_t.mpr ⟨zh11, Int32.not_le.mpr zh17⟩)]; exact zh7)
    · refine r_iload_n 3 rfl dX10_at_14 ?_
      refine r_bipush (v := 64) rfl dX10_at_15 ?_
      refine r_icmplt (tgt := 22) dX10_at_17 (by decide) (fun zh17 => ?_) (fun zh17 => ?_)
      · first | exact j22 _ (by rw [if_neg zh7]) | exact j22 _ (by rw [if_pos zh7, if_neg (fun z => (inR_t.mp z).1 zh11)]) | exact j22 _ (by rw [if_pos zh7, if_neg (fun z => (inR_t.mp z).2 (Int32.not_lt.mp zh17))]) | exact j22 _ (by rw [if_pos zh7, if_pos (inR_t.mpr ⟨zh11, Int32.not_le.mpr zh17⟩)]; exact zh7)
      · refine r_iconst (v := 2) rfl dX10_at_20 ?_
        refine r_istore_n (ls2 := [(3, .int 2), (0, .ref 0), (1, .int x), (2, .int y)]) dX10_at_21 (by decide) rfl ?_
        first | exact j22 _ (by rw [if_neg zh7]) | exact j22 _ (by rw [if_pos zh7, if_neg (fun z => (inR_t.mp z).1 zh11)]) | exact j22 _ (by rw [if_pos zh7, if_neg (fun z => (inR_t.mp z).2 (Int32.not_lt.mp zh17))]) | exact j22 _ (by rw [if_pos zh7, if_pos (inR_t.mpr ⟨zh11, Int32.not_le.mpr zh17⟩)]; exact zh7)
def poAns (MI : Nat → Nat → Int32) (ML : Nat → Nat → Int64) (x y : Int32) : Int32 × Int32 := if funTr MI x = 0 then (if inR y 3 = true then ((if y = 2 then 64 - popF (ML 49 x.toNatClampNeg) - popF (ML 50 x.toNatClampNeg) else if y = 1 then popF (ML 50 x.toNatClampNeg) else popF (ML 49 x.toNatClampNeg)), 0) else (-1, 2)) else (-1, funTr MI x)
set_option maxRecDepth 100000 in
theorem c_X10_points (hM : x_Lay MR) {x y : Int32} : Cf X yX10_points cX10_points 6 (some .int) 3 [.ref 0, .int x, .int y] n SH MI ML MR (some (.int (poAns MI ML x y).1)) (ansM MI (poAns MI ML x y).2) ML MR := by
  refine Ct_of (by decide) (Nat.le_of_ble_eq_true rfl) (fun G hG => ?_)
  have j21 : ∀ t, t = (if funTr MI x = 0 then (if inR y 3 = true then 0 else 2) else funTr MI x) → RW X G RX10 cX10_points 6 (x_rm 3 0 0) n SH MI ML MR 0 0 21 [(3, .int t), (0, .ref 0), (1, .int x), (2, .int y)] [] := by
    intro t ht
    by_cases h1 : funTr MI x = 0
    · obtain ⟨⟨f, hf, rfl⟩, -⟩ := funTr_ex h1
      have hin : inR (nI f) 5 = true := inR_nI hf (by decide)
      by_cases h2 : inR y 3 = true
      · rw [if_pos h1, if_pos h2] at ht
        have ha : poAns MI ML (nI f) y = ((if y = 2 then 64 - popF (ML 49 (nI f).toNatClampNeg) - popF (ML 50 (nI f).toNatClampNeg) else if y = 1 then popF (ML 50 (nI f).toNatClampNeg) else popF (ML 49 (nI f).toNatClampNeg)), 0) := by unfold poAns; rw [if_pos h1, if_pos h2]
        rw [ha] at hG
        refine r_iload_n 0 rfl dX10_points_21 ?_
        refine r_ifeq (tgt := 31) dX10_points_22 (by decide) (fun zh22 => ?_) (fun zh22 => ?_)
        rotate_left
        · exact absurd zh22 (fun q => q ht)
        refine r_aload_n 1 rfl dX10_points_31 ?_
        refine r_getr dX10_points_32 fl_X10_35 rfl (hM _ _ _ rfl) ?_
        refine r_getr dX10_points_35 fl_X10_175 rfl (hM _ _ _ rfl) ?_
        refine r_iload_n 2 rfl dX10_points_38 ?_
        refine r_Vf [.int _] dX10_points_39 lk_X10_179 mb_X3_zerosOf in_X3_zerosOf se_X3_zerosOf rfl (c_X3_zerosOf (De48 hM)) rfl rfl rfl (Nat.le_of_ble_eq_true rfl) (rfl) ?_
        refine r_Sf [.long _] dX10_points_42 lk_X10_188 mb_J13_bitCount_95d88 sc_J13_bitCount_95d88 rfl (c_J13_bitCount_95d88) rfl (Nat.le_of_ble_eq_true rfl) (rfl) ?_
        refine r_nmi (fun zv45 ze45 => ?_)
        refine r_istore (ls2 := [(4, .int zv45), (3, .int t), (0, .ref 0), (1, .int (nI f)), (2, .int y)]) dX10_points_45 (by decide) rfl ?_
        rw [if_pos hin] at ze45
        refine r_aload_n 2 rfl dX10_points_47 ?_
        refine r_getr dX10_points_48 fl_X10_35 rfl (hM _ _ _ rfl) ?_
        refine r_getr dX10_points_51 fl_X10_175 rfl (hM _ _ _ rfl) ?_
        refine r_iload_n 3 rfl dX10_points_54 ?_
        refine r_Vf [.int _] dX10_points_55 lk_X10_185 mb_X3_onesOf in_X3_onesOf se_X3_onesOf rfl (c_X3_onesOf (De48 hM)) rfl rfl rfl (Nat.le_of_ble_eq_true rfl) (rfl) ?_
        refine r_Sf [.long _] dX10_points_58 lk_X10_188 mb_J13_bitCount_95d88 sc_J13_bitCount_95d88 rfl (c_J13_bitCount_95d88) rfl (Nat.le_of_ble_eq_true rfl) (rfl) ?_
        refine r_nmi (fun zv61 ze61 => ?_)
        refine r_istore (ls2 := [(5, .int zv61), (4, .int zv45), (3, .int t), (0, .ref 0), (1, .int (nI f)), (2, .int y)]) dX10_points_61 (by decide) rfl ?_
        rw [if_pos hin] at ze61
        subst ze45
        subst ze61
        refine r_iload_n 5 rfl dX10_points_63 ?_
        refine r_iconst (v := 2) rfl dX10_points_64 ?_
        refine r_icmpne (tgt := 81) dX10_points_65 (by decide) (fun zh65 => ?_) (fun zh65 => ?_)
        · refine r_aload_n 3 rfl dX10_points_81 ?_
          refine r_iload_n 5 rfl dX10_points_82 ?_
          refine r_iconst (v := 1) rfl dX10_points_83 ?_
          refine r_icmpne (tgt := 92) dX10_points_84 (by decide) (fun zh84 => ?_) (fun zh84 => ?_)
          · refine r_iload 1 rfl dX10_points_92 ?_
            refine r_Vf [.int _] dX10_points_94 lk_X10_115 mb_X10_told in_X10_told se_X10_told rfl (c_X10_told) rfl rfl rfl (Nat.le_of_ble_eq_true rfl) (rfl) ?_
            exact r_iret hG dX10_points_97 (by first | (rw [if_pos zh65]; exact ⟨rfl, rfl, rfl, rfl⟩) | (rw [if_neg zh65]; first | (rw [if_pos zh84]; exact ⟨rfl, rfl, rfl, rfl⟩) | (rw [if_neg zh84]; exact ⟨rfl, rfl, rfl, rfl⟩)))
          · refine r_iload 0 rfl dX10_points_87 ?_
            refine r_goto (tgt := 94) dX10_points_89 (by decide) ?_
            refine r_Vf [.int _] dX10_points_94 lk_X10_115 mb_X10_told in_X10_told se_X10_told rfl (c_X10_told) rfl rfl rfl (Nat.le_of_ble_eq_true rfl) (rfl) ?_
            exact r_iret hG dX10_points_97 (by first | (rw [if_pos zh65]; exact ⟨rfl, rfl, rfl, rfl⟩) | (rw [if_neg zh65]; first | (rw [if_pos zh84]; exact ⟨rfl, rfl, rfl, rfl⟩) | (rw [if_neg zh84]; exact ⟨rfl, rfl, rfl, rfl⟩)))
        · refine r_aload_n 3 rfl dX10_points_68 ?_
          refine r_bipush (v := 64) rfl dX10_points_69 ?_
          refine r_iload 1 rfl dX10_points_71 ?_
          refine r_isub dX10_points_73 ?_
          refine r_iload 0 rfl dX10_points_74 ?_
          refine r_isub dX10_points_76 ?_
          refine r_Vf [.int _] dX10_points_77 lk_X10_115 mb_X10_told in_X10_told se_X10_told rfl (c_X10_told) rfl rfl rfl (Nat.le_of_ble_eq_true rfl) (rfl) ?_
          exact r_iret hG dX10_points_80 (by first | (rw [if_pos zh65]; exact ⟨rfl, rfl, rfl, rfl⟩) | (rw [if_neg zh65]; first | (rw [if_pos zh84]; exact ⟨rfl, rfl, rfl, rfl⟩) | (rw [if_neg zh84]; exact ⟨rfl, rfl, rfl, rfl⟩)))
      · rw [if_pos h1, if_neg h2] at ht
        subst ht
        have ha : poAns MI ML (nI f) y = (-1, 2) := by unfold poAns; rw [if_pos h1, if_neg h2]
        rw [ha] at hG
        refine r_iload_n 0 rfl dX10_points_21 ?_
        refine r_ifeq (tgt := 31) dX10_points_22 (by decide) (fun zh22 => ?_) (fun zh22 => ?_)
        · exact absurd zh22 (fun q => absurd q (by decide))
        refine r_aload_n 1 rfl dX10_points_25 ?_
        refine r_iload_n 0 rfl dX10_points_26 ?_
        refine r_Vf [.int _] dX10_points_27 lk_X10_86 mb_X10_refuse in_X10_refuse se_X10_refuse rfl (c_X10_refuse) rfl rfl rfl (Nat.le_of_ble_eq_true rfl) (rfl) ?_
        exact r_iret hG dX10_points_30 (⟨rfl, rfl, rfl, rfl⟩)
    · rw [if_neg h1] at ht
      have ha : poAns MI ML x y = (-1, funTr MI x) := by unfold poAns; rw [if_neg h1]
      rw [ha, ← ht] at hG
      refine r_iload_n 0 rfl dX10_points_21 ?_
      refine r_ifeq (tgt := 31) dX10_points_22 (by decide) (fun zh22 => ?_) (fun zh22 => ?_)
      · exact absurd zh22 (fun q => h1 (ht ▸ q))
      refine r_aload_n 1 rfl dX10_points_25 ?_
      refine r_iload_n 0 rfl dX10_points_26 ?_
      refine r_Vf [.int _] dX10_points_27 lk_X10_86 mb_X10_refuse in_X10_refuse se_X10_refuse rfl (c_X10_refuse) rfl rfl rfl (Nat.le_of_ble_eq_true rfl) (rfl) ?_
      exact r_iret hG dX10_points_30 (⟨rfl, rfl, rfl, rfl⟩)
  refine r_aload_n 0 rfl dX10_points_0 ?_
  refine r_iload_n 1 rfl dX10_points_1 ?_
  refine r_Vf [.int _] dX10_points_2 lk_X10_172 mb_X10_functionTrouble in_X10_functionTrouble se_X10_functionTrouble rfl (c_X10_functionTrouble hM) rfl rfl rfl (Nat.le_of_ble_eq_true rfl) (rfl) ?_
  refine r_istore_n (ls2 := [(3, .int (funTr MI x)), (0, .ref 0), (1, .int x), (2, .int y)]) dX10_points_5 (by decide) rfl ?_
  refine r_iload_n 0 rfl dX10_points_6 ?_
  refine r_ifne (tgt := 21) dX10_points_7 (by decide) (fun zh7 => ?_) (fun zh7 => ?_)
  · first | exact j21 _ (by rw [if_neg zh7]) | exact j21 _ (by rw [if_pos zh7, if_neg (fun z => (inR3.mp z).1 zh11)]) | exact j21 _ (by rw [if_pos zh7, if_neg (fun z => zh16 (inR3.mp z).2)]) | exact j21 _ (by rw [if_pos zh7, if_pos (inR3.mpr ⟨zh11, zh16⟩)]; exact zh7)
  · refine r_iload_n 3 rfl dX10_points_10 ?_
    refine r_iflt (tgt := 19) dX10_points_11 (by decide) (fun zh11 => ?_) (fun zh11 => ?_)
    · refine r_iconst (v := 2) rfl dX10_points_19 ?_
      refine r_istore_n (ls2 := [(3, .int 2), (0, .ref 0), (1, .int x), (2, .int y)]) dX10_points_20 (by decide) rfl ?_
      first | exact j21 _ (by rw [if_neg zh7]) | exact j21 _ (by rw [if_pos zh7, if_neg (fun z => (inR3.mp z).1 zh11)]) | exact j21 _ (by rw [if_pos zh7, if_neg (fun z => zh16 (inR3.mp z).2)]) | exact j21 _ (by rw [if_pos zh7, if_pos (inR3.mpr ⟨zh11, zh16⟩)]; exact zh7)
    · refine r_iload_n 3 rfl dX10_points_14 ?_
      refine r_iconst (v := 2) rfl dX10_points_15 ?_
      refine r_icmple (tgt := 21) dX10_points_16 (by decide) (fun zh16 => ?_) (fun zh16 => ?_)
      · first | exact j21 _ (by rw [if_neg zh7]) | exact j21 _ (by rw [if_pos zh7, if_neg (fun z => (inR3.mp z).1 zh11)]) | exact j21 _ (by rw [if_pos zh7, if_neg (fun z => zh16 (inR3.mp z).2)]) | exact j21 _ (by rw [if_pos zh7, if_pos (inR3.mpr ⟨zh11, zh16⟩)]; exact zh7)
      · refine r_iconst (v := 2) rfl dX10_points_19 ?_
        refine r_istore_n (ls2 := [(3, .int 2), (0, .ref 0), (1, .int x), (2, .int y)]) dX10_points_20 (by decide) rfl ?_
        first | exact j21 _ (by rw [if_neg zh7]) | exact j21 _ (by rw [if_pos zh7, if_neg (fun z => (inR3.mp z).1 zh11)]) | exact j21 _ (by rw [if_pos zh7, if_neg (fun z => zh16 (inR3.mp z).2)]) | exact j21 _ (by rw [if_pos zh7, if_pos (inR3.mpr ⟨zh11, zh16⟩)]; exact zh7)
def szAns (MI : Nat → Nat → Int32) (x : Int32) : Int32 := if x = 0 then MI 1 1 else if x = 1 then MI 1 6 else if x = 2 then MI 1 8 else if x = 3 then MI 29 2 else if x = 4 then MI 14 1 else if x = 5 then MI 1 3 else -1
set_option maxRecDepth 100000 in
theorem c_X10_size (hM : x_Lay MR) {x : Int32} : Cf X yX10_size cX10_size 2 (some .int) 1 [.ref 0, .int x] n SH MI ML MR (some (.int (szAns MI x))) MI ML MR := by
  refine Ct_of (by decide) (Nat.le_of_ble_eq_true rfl) (fun G hG => ?_)
  have out : (x.toInt < 0 ∨ ((6 : Nat) : Int) - 1 < x.toInt) → szAns MI x = -1 := fun h => by
    have ne : ∀ k : Nat, k < 6 → ¬ x = nI k := fun k hk e => by
      rw [e, nI_toInt (by omega)] at h
      omega
    unfold szAns
    rw [if_neg (show ¬ x = 0 from ne 0 (by decide)), if_neg (show ¬ x = 1 from ne 1 (by decide)), if_neg (show ¬ x = 2 from ne 2 (by decide)), if_neg (show ¬ x = 3 from ne 3 (by decide)), if_neg (show ¬ x = 4 from ne 4 (by decide)), if_neg (show ¬ x = 5 from ne 5 (by decide))]
  refine r_iload_n 1 rfl dX10_size_0 ?_
  rcases tsw 6 x with zo1 | ⟨zk1, zl1, zx1⟩
  · refine r_tswO (tgt := 88) dX10_size_1 zo1 (by decide) ?_
    refine r_iconst (v := (-1)) rfl dX10_size_88 ?_
    exact r_iret hG dX10_size_89 (by first | exact ⟨by rw [out zo1], rfl, rfl, rfl⟩ | exact ⟨by rw [zx1]; rfl, rfl, rfl, rfl⟩)
  · rcases (show zk1 = 0 ∨ zk1 = 1 ∨ zk1 = 2 ∨ zk1 = 3 ∨ zk1 = 4 ∨ zk1 = 5 by omega) with zy1 | zy1 | zy1 | zy1 | zy1 | zy1
    · rw [zy1] at zx1
      refine r_tswI (k := 0) (tgt := 40) dX10_size_1 zx1 (by decide) (by decide) rfl (by decide) ?_
      refine r_aload_n 0 rfl dX10_size_40 ?_
      refine r_getr dX10_size_41 fl_X10_10 rfl (hM _ _ _ rfl) ?_
      refine r_geti dX10_size_44 fl_X10_133 rfl ?_
      exact r_iret hG dX10_size_47 (by first | exact ⟨by rw [out zo1], rfl, rfl, rfl⟩ | exact ⟨by rw [zx1]; rfl, rfl, rfl, rfl⟩)
    · rw [zy1] at zx1
      refine r_tswI (k := 1) (tgt := 48) dX10_size_1 zx1 (by decide) (by decide) rfl (by decide) ?_
      refine r_aload_n 0 rfl dX10_size_48 ?_
      refine r_getr dX10_size_49 fl_X10_10 rfl (hM _ _ _ rfl) ?_
      refine r_geti dX10_size_52 fl_X10_112 rfl ?_
      exact r_iret hG dX10_size_55 (by first | exact ⟨by rw [out zo1], rfl, rfl, rfl⟩ | exact ⟨by rw [zx1]; rfl, rfl, rfl, rfl⟩)
    · rw [zy1] at zx1
      refine r_tswI (k := 2) (tgt := 56) dX10_size_1 zx1 (by decide) (by decide) rfl (by decide) ?_
      refine r_aload_n 0 rfl dX10_size_56 ?_
      refine r_getr dX10_size_57 fl_X10_10 rfl (hM _ _ _ rfl) ?_
      refine r_geti dX10_size_60 fl_X10_163 rfl ?_
      exact r_iret hG dX10_size_63 (by first | exact ⟨by rw [out zo1], rfl, rfl, rfl⟩ | exact ⟨by rw [zx1]; rfl, rfl, rfl, rfl⟩)
    · rw [zy1] at zx1
      refine r_tswI (k := 3) (tgt := 64) dX10_size_1 zx1 (by decide) (by decide) rfl (by decide) ?_
      refine r_aload_n 0 rfl dX10_size_64 ?_
      refine r_getr dX10_size_65 fl_X10_28 rfl (hM _ _ _ rfl) ?_
      refine r_geti dX10_size_68 fl_X10_106 rfl ?_
      exact r_iret hG dX10_size_71 (by first | exact ⟨by rw [out zo1], rfl, rfl, rfl⟩ | exact ⟨by rw [zx1]; rfl, rfl, rfl, rfl⟩)
    · rw [zy1] at zx1
      refine r_tswI (k := 4) (tgt := 72) dX10_size_1 zx1 (by decide) (by decide) rfl (by decide) ?_
      refine r_aload_n 0 rfl dX10_size_72 ?_
      refine r_getr dX10_size_73 fl_X10_19 rfl (hM _ _ _ rfl) ?_
      refine r_geti dX10_size_76 fl_X10_82 rfl ?_
      exact r_iret hG dX10_size_79 (by first | exact ⟨by rw [out zo1], rfl, rfl, rfl⟩ | exact ⟨by rw [zx1]; rfl, rfl, rfl, rfl⟩)
    · rw [zy1] at zx1
      refine r_tswI (k := 5) (tgt := 80) dX10_size_1 zx1 (by decide) (by decide) rfl (by decide) ?_
      refine r_aload_n 0 rfl dX10_size_80 ?_
      refine r_getr dX10_size_81 fl_X10_10 rfl (hM _ _ _ rfl) ?_
      refine r_geti dX10_size_84 fl_X10_328 rfl ?_
      exact r_iret hG dX10_size_87 (by first | exact ⟨by rw [out zo1], rfl, rfl, rfl⟩ | exact ⟨by rw [zx1]; rfl, rfl, rfl, rfl⟩)
def wkAns (MI : Nat → Nat → Int32) (x : Int32) : Int32 × Int32 := if MI 1 0 = 0 ∨ ¬ inR x 4 = true then (-1, 1) else if MI 43 6 = 0 then ((if x = 0 then MI 85 1 else if x = 1 then pickV (MI 44) 6 (MI 85 1) ^^^ MI 85 2 else if x = 2 then pickV (MI 45) 6 (MI 85 1) else MI 85 2), 0) else (-1, 5)
set_option maxRecDepth 100000 in
theorem c_X10_walk (hM : x_Lay MR) {x : Int32} : Cf X yX10_walk cX10_walk 2 (some .int) 3 [.ref 0, .int x] n SH MI ML MR (some (.int (wkAns MI x).1)) (ansM MI (wkAns MI x).2) ML MR := by
  refine Ct_of (by decide) (Nat.le_of_ble_eq_true rfl) (fun G hG => ?_)
  have no : MI 1 0 = 0 ∨ ¬ inR x 4 = true → wkAns MI x = (-1, 1) := fun h => if_pos h
  have yes : ¬ MI 1 0 = 0 → inR x 4 = true → wkAns MI x = if MI 43 6 = 0 then ((if x = 0 then MI 85 1 else if x = 1 then pickV (MI 44) 6 (MI 85 1) ^^^ MI 85 2 else if x = 2 then pickV (MI 45) 6 (MI 85 1) else MI 85 2), 0) else (-1, 5) := fun h1 h2 => if_neg (fun z => z.elim h1 (fun w => w h2))
  have out : (x.toInt < 0 ∨ ((3 : Nat) : Int) - 1 < x.toInt) → ¬ x = 0 ∧ ¬ x = 1 ∧ ¬ x = 2 := fun h => by
    have ne : ∀ k : Nat, k < 3 → ¬ x = nI k := fun k hk e => by
      rw [e, nI_toInt (by omega)] at h
      omega
    exact ⟨ne 0 (by decide), ne 1 (by decide), ne 2 (by decide)⟩
  refine r_aload_n 0 rfl dX10_walk_0 ?_
  refine r_getr dX10_walk_1 fl_X10_10 rfl (hM _ _ _ rfl) ?_
  refine r_geti dX10_walk_4 fl_X10_124 rfl ?_
  refine r_ifeq (tgt := 19) dX10_walk_7 (by decide) (fun zh7 => ?_) (fun zh7 => ?_)
  · refine r_aload_n 0 rfl dX10_walk_19 ?_
    refine r_iconst (v := 1) rfl dX10_walk_20 ?_
    refine r_Vf [.int _] dX10_walk_21 lk_X10_86 mb_X10_refuse in_X10_refuse se_X10_refuse rfl (c_X10_refuse) rfl rfl rfl (Nat.le_of_ble_eq_true rfl) (rfl) ?_
    exact r_iret hG dX10_walk_24 (by have hn := no (by first | exact Or.inl zh7 | exact Or.inr (fun z => ((inRN (N := 3) (by decide)).mp z).1 zh11) | exact Or.inr (fun z => zh16 ((inRN (N := 3) (by decide)).mp z).2)); rw [hn]; exact ⟨rfl, rfl, rfl, rfl⟩)
  · refine r_iload_n 1 rfl dX10_walk_10 ?_
    refine r_iflt (tgt := 19) dX10_walk_11 (by decide) (fun zh11 => ?_) (fun zh11 => ?_)
    · refine r_aload_n 0 rfl dX10_walk_19 ?_
      refine r_iconst (v := 1) rfl dX10_walk_20 ?_
      refine r_Vf [.int _] dX10_walk_21 lk_X10_86 mb_X10_refuse in_X10_refuse se_X10_refuse rfl (c_X10_refuse) rfl rfl rfl (Nat.le_of_ble_eq_true rfl) (rfl) ?_
      exact r_iret hG dX10_walk_24 (by have hn := no (by first | exact Or.inl zh7 | exact Or.inr (fun z => ((inRN (N := 3) (by decide)).mp z).1 zh11) | exact Or.inr (fun z => zh16 ((inRN (N := 3) (by decide)).mp z).2)); rw [hn]; exact ⟨rfl, rfl, rfl, rfl⟩)
    · refine r_iload_n 1 rfl dX10_walk_14 ?_
      refine r_iconst (v := 3) rfl dX10_walk_15 ?_
      refine r_icmple (tgt := 25) dX10_walk_16 (by decide) (fun zh16 => ?_) (fun zh16 => ?_)
      · have hy := yes zh7 ((inRN (N := 3) (by decide)).mpr ⟨zh11, zh16⟩)
        refine r_aload_n 0 rfl dX10_walk_25 ?_
        refine r_getr dX10_walk_26 fl_X10_35 rfl (hM _ _ _ rfl) ?_
        refine r_geti dX10_walk_29 fl_X10_127 rfl ?_
        refine r_ifeq (tgt := 41) dX10_walk_32 (by decide) (fun zh32 => ?_) (fun zh32 => ?_)
        · refine r_iload_n 1 rfl dX10_walk_41 ?_
          rcases tsw 3 x with zo42 | ⟨zk42, zl42, zx42⟩
          · refine r_tswO (tgt := 114) dX10_walk_42 zo42 (by decide) ?_
            refine r_aload_n 0 rfl dX10_walk_114 ?_
            refine r_aload_n 0 rfl dX10_walk_115 ?_
            refine r_getr dX10_walk_116 fl_X10_64 rfl (hM _ _ _ rfl) ?_
            refine r_geti dX10_walk_119 fl_X10_278 rfl ?_
            refine r_Vf [.int _] dX10_walk_122 lk_X10_115 mb_X10_told in_X10_told se_X10_told rfl (c_X10_told) rfl rfl rfl (Nat.le_of_ble_eq_true rfl) (rfl) ?_
            exact r_iret hG dX10_walk_125 (by rw [if_pos zh32] at hy; rw [hy]; first | exact ⟨by rw [zx42]; rfl, rfl, rfl, rfl⟩ | (obtain ⟨o1, o2, o3⟩ := out zo42; exact ⟨by rw [if_neg o1, if_neg o2, if_neg o3], rfl, rfl, rfl⟩))
          · rcases (show zk42 = 0 ∨ zk42 = 1 ∨ zk42 = 2 by omega) with zy42 | zy42 | zy42
            · rw [zy42] at zx42
              refine r_tswI (k := 0) (tgt := 68) dX10_walk_42 zx42 (by decide) (by decide) rfl (by decide) ?_
              refine r_aload_n 0 rfl dX10_walk_68 ?_
              refine r_aload_n 0 rfl dX10_walk_69 ?_
              refine r_getr dX10_walk_70 fl_X10_64 rfl (hM _ _ _ rfl) ?_
              refine r_geti dX10_walk_73 fl_X10_274 rfl ?_
              refine r_Vf [.int _] dX10_walk_76 lk_X10_115 mb_X10_told in_X10_told se_X10_told rfl (c_X10_told) rfl rfl rfl (Nat.le_of_ble_eq_true rfl) (rfl) ?_
              exact r_iret hG dX10_walk_79 (by rw [if_pos zh32] at hy; rw [hy]; first | exact ⟨by rw [zx42]; rfl, rfl, rfl, rfl⟩ | (obtain ⟨o1, o2, o3⟩ := out zo42; exact ⟨by rw [if_neg o1, if_neg o2, if_neg o3], rfl, rfl, rfl⟩))
            · rw [zy42] at zx42
              refine r_tswI (k := 1) (tgt := 80) dX10_walk_42 zx42 (by decide) (by decide) rfl (by decide) ?_
              refine r_aload_n 0 rfl dX10_walk_80 ?_
              refine r_aload_n 0 rfl dX10_walk_81 ?_
              refine r_getr dX10_walk_82 fl_X10_64 rfl (hM _ _ _ rfl) ?_
              refine r_Vf [] dX10_walk_85 lk_X10_275 mb_X9_inputsNow in_X9_inputsNow se_X9_inputsNow rfl (c_X9_inputsNow hM) rfl rfl rfl (Nat.le_of_ble_eq_true rfl) (rfl) ?_
              refine r_Vf [.int _] dX10_walk_88 lk_X10_115 mb_X10_told in_X10_told se_X10_told rfl (c_X10_told) rfl rfl rfl (Nat.le_of_ble_eq_true rfl) (rfl) ?_
              exact r_iret hG dX10_walk_91 (by rw [if_pos zh32] at hy; rw [hy]; first | exact ⟨by rw [zx42]; rfl, rfl, rfl, rfl⟩ | (obtain ⟨o1, o2, o3⟩ := out zo42; exact ⟨by rw [if_neg o1, if_neg o2, if_neg o3], rfl, rfl, rfl⟩))
            · rw [zy42] at zx42
              refine r_tswI (k := 2) (tgt := 92) dX10_walk_42 zx42 (by decide) (by decide) rfl (by decide) ?_
              refine r_aload_n 0 rfl dX10_walk_92 ?_
              refine r_aload_n 0 rfl dX10_walk_93 ?_
              refine r_getr dX10_walk_94 fl_X10_35 rfl (hM _ _ _ rfl) ?_
              refine r_getr dX10_walk_97 fl_X10_150 rfl (hM _ _ _ rfl) ?_
              refine r_aload_n 0 rfl dX10_walk_100 ?_
              refine r_getr dX10_walk_101 fl_X10_64 rfl (hM _ _ _ rfl) ?_
              refine r_geti dX10_walk_104 fl_X10_274 rfl ?_
              refine r_Sf [.ref _, .int _] dX10_walk_107 lk_X10_140 mb_X10_pick sc_X10_pick rfl (c_X10_pick (N := 6) rfl (by decide)) rfl (Nat.le_of_ble_eq_true rfl) (rfl) ?_
              refine r_Vf [.int _] dX10_walk_110 lk_X10_115 mb_X10_told in_X10_told se_X10_told rfl (c_X10_told) rfl rfl rfl (Nat.le_of_ble_eq_true rfl) (rfl) ?_
              exact r_iret hG dX10_walk_113 (by rw [if_pos zh32] at hy; rw [hy]; first | exact ⟨by rw [zx42]; rfl, rfl, rfl, rfl⟩ | (obtain ⟨o1, o2, o3⟩ := out zo42; exact ⟨by rw [if_neg o1, if_neg o2, if_neg o3], rfl, rfl, rfl⟩))
        · refine r_aload_n 0 rfl dX10_walk_35 ?_
          refine r_iconst (v := 5) rfl dX10_walk_36 ?_
          refine r_Vf [.int _] dX10_walk_37 lk_X10_86 mb_X10_refuse in_X10_refuse se_X10_refuse rfl (c_X10_refuse) rfl rfl rfl (Nat.le_of_ble_eq_true rfl) (rfl) ?_
          exact r_iret hG dX10_walk_40 (by rw [if_neg zh32] at hy; rw [hy]; exact ⟨rfl, rfl, rfl, rfl⟩)
      · refine r_aload_n 0 rfl dX10_walk_19 ?_
        refine r_iconst (v := 1) rfl dX10_walk_20 ?_
        refine r_Vf [.int _] dX10_walk_21 lk_X10_86 mb_X10_refuse in_X10_refuse se_X10_refuse rfl (c_X10_refuse) rfl rfl rfl (Nat.le_of_ble_eq_true rfl) (rfl) ?_
        exact r_iret hG dX10_walk_24 (by have hn := no (by first | exact Or.inl zh7 | exact Or.inr (fun z => ((inRN (N := 3) (by decide)).mp z).1 zh11) | exact Or.inr (fun z => zh16 ((inRN (N := 3) (by decide)).mp z).2)); rw [hn]; exact ⟨rfl, rfl, rfl, rfl⟩)
end desk2

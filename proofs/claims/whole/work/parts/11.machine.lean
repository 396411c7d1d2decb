/-! Machine: k = 1 (the MACHINE) or 16 (the draft); its codes k + 1, rows of arcs k + 3 and on, gates' functions k + 11, cubes k + 12 -/
theorem lay3 : ∀ i, i < 8 → lay 3 i = some (4 + i) ∧ lay 18 i = some (19 + i) := by decide
theorem sh3 : ∀ i, i < 8 → SH[4 + i]? = some (13, 6) ∧ SH[19 + i]? = some (13, 6) := by decide
theorem hrow1 {MR : Nat → Nat → Option Nat} (hM : x_Lay MR) {i : Nat} (hi : i < 8) : MR 3 i = some (4 + i) := hM _ _ _ (lay3 i hi).1
theorem hrow16 {MR : Nat → Nat → Option Nat} (hM : x_Lay MR) {i : Nat} (hi : i < 8) : MR 18 i = some (19 + i) := hM _ _ _ (lay3 i hi).2
theorem hsr1 {i : Nat} (hi : i < 8) : SH[4 + i]? = some (13, 6) := (sh3 i hi).1
theorem hsr16 {i : Nat} (hi : i < 8) : SH[19 + i]? = some (13, 6) := (sh3 i hi).2
def partV (MI : Nat → Nat → Int32) (k : Nat) (x y : Int32) : Int32 := if inR x 8 = true ∧ inR y 6 = true then MI (k + 3 + x.toNatClampNeg) y.toNatClampNeg else 0
def setPartM (MI : Nat → Nat → Int32) (k : Nat) (x y v : Int32) : Nat → Nat → Int32 := if inR x 8 = true ∧ inR y 6 = true then u2 MI (k + 3 + x.toNatClampNeg) y.toNatClampNeg v else MI
theorem partV_nI {MI : Nat → Nat → Int32} {k i j : Nat} (hi : i < 8) (hj : j < 6) : partV MI k (nI i) (nI j) = MI (k + 3 + i) j := by
  unfold partV
  rw [if_pos ⟨inR_nI (N := 8) hi (by decide), inR_nI (N := 6) hj (by decide)⟩, nI_clamp (by omega), nI_clamp (by omega)]
theorem setPartM_nI {MI : Nat → Nat → Int32} {k i j : Nat} {v : Int32} (hi : i < 8) (hj : j < 6) : setPartM MI k (nI i) (nI j) v = u2 MI (k + 3 + i) j v := by
  unfold setPartM
  rw [if_pos ⟨inR_nI (N := 8) hi (by decide), inR_nI (N := 6) hj (by decide)⟩, nI_clamp (by omega), nI_clamp (by omega)]
def burstV (MI : Nat → Nat → Int32) (k : Nat) (x : Int32) : Int32 := partV MI k x 2 ||| partV MI k x 3
def leavesV (MI : Nat → Nat → Int32) (k A : Nat) (s : Int32) : Bool := (List.range A).any (fun i => decide (partV MI k (nI i) 0 = s))
theorem leavesV_t {MI : Nat → Nat → Int32} {k A : Nat} {s : Int32} : leavesV MI k A s = true ↔ ∃ i, i < A ∧ partV MI k (nI i) 0 = s := by
  unfold leavesV
  simp only [List.any_eq_true, List.mem_range, decide_eq_true_eq]
def clearM (MI : Nat → Nat → Int32) (k : Nat) : Nat → Nat → Int32 := u2 (u2 (u2 (u2 (u2 (u2 (u2 MI k 0 0) k 1 0) k 3 0) k 4 0) k 5 0) k 6 0) k 8 0
section mach
variable {X : xG} {n : Nat} {MI : Nat → Nat → Int32} {ML : Nat → Nat → Int64} {MR : Nat → Nat → Option Nat}
set_option maxRecDepth 100000 in
theorem c_X5_part_1 (hM : x_Lay MR) {x y : Int32} : Cf X yX5_part cX5_part 3 (some .int) 1 [.ref 1, .int x, .int y] n SH MI ML MR (some (.int (partV MI 1 x y))) MI ML MR := by
  refine Ct_of (by decide) (Nat.le_of_ble_eq_true rfl) (fun G hG => ?_)
  refine r_iload_n 1 rfl dX5_part_0 ?_
  refine r_iflt (tgt := 31) dX5_part_1 (by decide) (fun zh1 => ?_) (fun zh1 => ?_)
  · refine r_iconst (v := 0) rfl dX5_part_31 ?_
    exact r_iret hG dX5_part_32 (⟨by simp_all [partV, inR], rfl, rfl, rfl⟩)
  · refine r_iload_n 1 rfl dX5_part_4 ?_
    refine r_bipush (v := 8) rfl dX5_part_5 ?_
    refine r_icmpge (tgt := 31) dX5_part_7 (by decide) (fun zh7 => ?_) (fun zh7 => ?_)
    · refine r_iconst (v := 0) rfl dX5_part_31 ?_
      exact r_iret hG dX5_part_32 (⟨by simp_all [partV, inR], rfl, rfl, rfl⟩)
    · refine r_iload_n 2 rfl dX5_part_10 ?_
      refine r_iflt (tgt := 31) dX5_part_11 (by decide) (fun zh11 => ?_) (fun zh11 => ?_)
      · refine r_iconst (v := 0) rfl dX5_part_31 ?_
        exact r_iret hG dX5_part_32 (⟨by simp_all [partV, inR], rfl, rfl, rfl⟩)
      · refine r_iload_n 2 rfl dX5_part_14 ?_
        refine r_bipush (v := 6) rfl dX5_part_15 ?_
        refine r_icmpge (tgt := 31) dX5_part_17 (by decide) (fun zh17 => ?_) (fun zh17 => ?_)
        · refine r_iconst (v := 0) rfl dX5_part_31 ?_
          exact r_iret hG dX5_part_32 (⟨by simp_all [partV, inR], rfl, rfl, rfl⟩)
        · refine r_aload_n 0 rfl dX5_part_20 ?_
          refine r_getr dX5_part_21 fl_X5_17 rfl (hM _ _ _ rfl) ?_
          refine r_iload_n 1 rfl dX5_part_24 ?_
          refine r_aald dX5_part_25 rfl (by decide) (vpin_of (N := 8) (by decide) zh1 zh7) (hrow1 hM (clampLt (N := 8) (by decide) zh1 zh7)) ?_
          refine r_iload_n 2 rfl dX5_part_26 ?_
          refine r_iald dX5_part_27 (hsr1 (clampLt (N := 8) (by decide) zh1 zh7)) (vpin_of (N := 6) (by decide) zh11 zh17) ?_
          refine r_goto (tgt := 32) dX5_part_28 (by decide) ?_
          exact r_iret hG dX5_part_32 (⟨by simp_all [partV, inR], rfl, rfl, rfl⟩)
set_option maxRecDepth 100000 in
theorem c_X5_setPart_1 (hM : x_Lay MR) {x y v : Int32} : Cf X yX5_setPart cX5_setPart 4 none 1 [.ref 1, .int x, .int y, .int v] n SH MI ML MR none (setPartM MI 1 x y v) ML MR := by
  refine Ct_of (by decide) (Nat.le_of_ble_eq_true rfl) (fun G hG => ?_)
  refine r_iload_n 1 rfl dX5_setPart_0 ?_
  refine r_iflt (tgt := 29) dX5_setPart_1 (by decide) (fun zh1 => ?_) (fun zh1 => ?_)
  · exact r_vret hG dX5_setPart_29 (⟨rfl, by simp_all [setPartM, inR], rfl, rfl⟩)
  · refine r_iload_n 1 rfl dX5_setPart_4 ?_
    refine r_bipush (v := 8) rfl dX5_setPart_5 ?_
    refine r_icmpge (tgt := 29) dX5_setPart_7 (by decide) (fun zh7 => ?_) (fun zh7 => ?_)
    · exact r_vret hG dX5_setPart_29 (⟨rfl, by simp_all [setPartM, inR], rfl, rfl⟩)
    · refine r_iload_n 2 rfl dX5_setPart_10 ?_
      refine r_iflt (tgt := 29) dX5_setPart_11 (by decide) (fun zh11 => ?_) (fun zh11 => ?_)
      · exact r_vret hG dX5_setPart_29 (⟨rfl, by simp_all [setPartM, inR], rfl, rfl⟩)
      · refine r_iload_n 2 rfl dX5_setPart_14 ?_
        refine r_bipush (v := 6) rfl dX5_setPart_15 ?_
        refine r_icmpge (tgt := 29) dX5_setPart_17 (by decide) (fun zh17 => ?_) (fun zh17 => ?_)
        · exact r_vret hG dX5_setPart_29 (⟨rfl, by simp_all [setPartM, inR], rfl, rfl⟩)
        · refine r_aload_n 0 rfl dX5_setPart_20 ?_
          refine r_getr dX5_setPart_21 fl_X5_17 rfl (hM _ _ _ rfl) ?_
          refine r_iload_n 1 rfl dX5_setPart_24 ?_
          refine r_aald dX5_setPart_25 rfl (by decide) (vpin_of (N := 8) (by decide) zh1 zh7) (hrow1 hM (clampLt (N := 8) (by decide) zh1 zh7)) ?_
          refine r_iload_n 2 rfl dX5_setPart_26 ?_
          refine r_iload_n 3 rfl dX5_setPart_27 ?_
          refine r_iast dX5_setPart_28 (hsr1 (clampLt (N := 8) (by decide) zh1 zh7)) (vpin_of (N := 6) (by decide) zh11 zh17) ?_
          exact r_vret hG dX5_setPart_29 (⟨rfl, by simp_all [setPartM, inR], rfl, rfl⟩)
set_option maxRecDepth 100000 in
theorem c_X5_clear_1 : Cf X yX5_clear cX5_clear 1 none 1 [.ref 1] n SH MI ML MR none (clearM MI 1) ML MR := by
  refine Ct_of (by decide) (Nat.le_of_ble_eq_true rfl) (fun G hG => ?_)
  refine r_aload_n 0 rfl dX5_clear_0 ?_
  refine r_iconst (v := 0) rfl dX5_clear_1 ?_
  refine r_puti dX5_clear_2 fl_X5_26 rfl rfl rfl ?_
  refine r_aload_n 0 rfl dX5_clear_5 ?_
  refine r_iconst (v := 0) rfl dX5_clear_6 ?_
  refine r_puti dX5_clear_7 fl_X5_30 rfl rfl rfl ?_
  refine r_aload_n 0 rfl dX5_clear_10 ?_
  refine r_iconst (v := 0) rfl dX5_clear_11 ?_
  refine r_puti dX5_clear_12 fl_X5_34 rfl rfl rfl ?_
  refine r_aload_n 0 rfl dX5_clear_15 ?_
  refine r_iconst (v := 0) rfl dX5_clear_16 ?_
  refine r_puti dX5_clear_17 fl_X5_37 rfl rfl rfl ?_
  refine r_aload_n 0 rfl dX5_clear_20 ?_
  refine r_iconst (v := 0) rfl dX5_clear_21 ?_
  refine r_puti dX5_clear_22 fl_X5_40 rfl rfl rfl ?_
  refine r_aload_n 0 rfl dX5_clear_25 ?_
  refine r_iconst (v := 0) rfl dX5_clear_26 ?_
  refine r_puti dX5_clear_27 fl_X5_43 rfl rfl rfl ?_
  refine r_aload_n 0 rfl dX5_clear_30 ?_
  refine r_iconst (v := 0) rfl dX5_clear_31 ?_
  refine r_puti dX5_clear_32 fl_X5_46 rfl rfl rfl ?_
  exact r_vret hG dX5_clear_35 (⟨rfl, rfl, rfl, rfl⟩)
set_option maxRecDepth 100000 in
theorem c_X5_addState_1 (hM : x_Lay MR) {x : Int32} : Cf X yX5_addState cX5_addState 2 none 2 [.ref 1, .int x] n SH MI ML MR none (u2 (placeM MI 2 6 (MI 1 1) x) 1 1 (placeM MI 2 6 (MI 1 1) x 1 1 + 1)) ML MR := by
  refine Ct_of (by decide) (Nat.le_of_ble_eq_true rfl) (fun G hG => ?_)
  refine r_aload_n 0 rfl dX5_addState_0 ?_
  refine r_getr dX5_addState_1 fl_X5_9 rfl (hM _ _ _ rfl) ?_
  refine r_aload_n 0 rfl dX5_addState_4 ?_
  refine r_geti dX5_addState_5 fl_X5_30 rfl ?_
  refine r_iload_n 1 rfl dX5_addState_8 ?_
  refine r_Sn [.ref _, .int _, .int _] dX5_addState_9 lk_X5_53 mb_X10_place sc_X10_place rfl (c_X10_place (N := 6) rfl (by decide)) rfl (Nat.le_of_ble_eq_true rfl) (rfl) ?_
  refine r_aload_n 0 rfl dX5_addState_12 ?_
  refine r_dup rfl dX5_addState_13 ?_
  refine r_geti dX5_addState_14 fl_X5_30 rfl ?_
  refine r_iconst (v := 1) rfl dX5_addState_17 ?_
  refine r_iadd dX5_addState_18 ?_
  refine r_puti dX5_addState_19 fl_X5_30 rfl rfl rfl ?_
  exact r_vret hG dX5_addState_22 (⟨rfl, rfl, rfl, rfl⟩)
set_option maxRecDepth 100000 in
theorem c_X5_addGate_1 (hM : x_Lay MR) {x y : Int32} : Cf X yX5_addGate cX5_addGate 3 none 2 [.ref 1, .int x, .int y] n SH MI ML MR none (u2 (placeM (placeM MI 12 16 (MI 1 8) x) 13 16 (placeM MI 12 16 (MI 1 8) x 1 8) y) 1 8 (placeM (placeM MI 12 16 (MI 1 8) x) 13 16 (placeM MI 12 16 (MI 1 8) x 1 8) y 1 8 + 1)) ML MR := by
  refine Ct_of (by decide) (Nat.le_of_ble_eq_true rfl) (fun G hG => ?_)
  refine r_aload_n 0 rfl dX5_addGate_0 ?_
  refine r_getr dX5_addGate_1 fl_X5_20 rfl (hM _ _ _ rfl) ?_
  refine r_aload_n 0 rfl dX5_addGate_4 ?_
  refine r_geti dX5_addGate_5 fl_X5_46 rfl ?_
  refine r_iload_n 1 rfl dX5_addGate_8 ?_
  refine r_Sn [.ref _, .int _, .int _] dX5_addGate_9 lk_X5_53 mb_X10_place sc_X10_place rfl (c_X10_place (N := 16) rfl (by decide)) rfl (Nat.le_of_ble_eq_true rfl) (rfl) ?_
  refine r_aload_n 0 rfl dX5_addGate_12 ?_
  refine r_getr dX5_addGate_13 fl_X5_23 rfl (hM _ _ _ rfl) ?_
  refine r_aload_n 0 rfl dX5_addGate_16 ?_
  refine r_geti dX5_addGate_17 fl_X5_46 rfl ?_
  refine r_iload_n 2 rfl dX5_addGate_20 ?_
  refine r_Sn [.ref _, .int _, .int _] dX5_addGate_21 lk_X5_53 mb_X10_place sc_X10_place rfl (c_X10_place (N := 16) rfl (by decide)) rfl (Nat.le_of_ble_eq_true rfl) (rfl) ?_
  refine r_aload_n 0 rfl dX5_addGate_24 ?_
  refine r_dup rfl dX5_addGate_25 ?_
  refine r_geti dX5_addGate_26 fl_X5_46 rfl ?_
  refine r_iconst (v := 1) rfl dX5_addGate_29 ?_
  refine r_iadd dX5_addGate_30 ?_
  refine r_puti dX5_addGate_31 fl_X5_46 rfl rfl rfl ?_
  exact r_vret hG dX5_addGate_34 (⟨rfl, rfl, rfl, rfl⟩)
set_option maxRecDepth 100000 in
theorem c_X5_part_16 (hM : x_Lay MR) {x y : Int32} : Cf X yX5_part cX5_part 3 (some .int) 1 [.ref 16, .int x, .int y] n SH MI ML MR (some (.int (partV MI 16 x y))) MI ML MR := by
  refine Ct_of (by decide) (Nat.le_of_ble_eq_true rfl) (fun G hG => ?_)
  refine r_iload_n 1 rfl dX5_part_0 ?_
  refine r_iflt (tgt := 31) dX5_part_1 (by decide) (fun zh1 => ?_) (fun zh1 => ?_)
  · refine r_iconst (v := 0) rfl dX5_part_31 ?_
    exact r_iret hG dX5_part_32 (⟨by simp_all [partV, inR], rfl, rfl, rfl⟩)
  · refine r_iload_n 1 rfl dX5_part_4 ?_
    refine r_bipush (v := 8) rfl dX5_part_5 ?_
    refine r_icmpge (tgt := 31) dX5_part_7 (by decide) (fun zh7 => ?_) (fun zh7 => ?_)
    · refine r_iconst (v := 0) rfl dX5_part_31 ?_
      exact r_iret hG dX5_part_32 (⟨by simp_all [partV, inR], rfl, rfl, rfl⟩)
    · refine r_iload_n 2 rfl dX5_part_10 ?_
      refine r_iflt (tgt := 31) dX5_part_11 (by decide) (fun zh11 => ?_) (fun zh11 => ?_)
      · refine r_iconst (v := 0) rfl dX5_part_31 ?_
        exact r_iret hG dX5_part_32 (⟨by simp_all [partV, inR], rfl, rfl, rfl⟩)
      · refine r_iload_n 2 rfl dX5_part_14 ?_
        refine r_bipush (v := 6) rfl dX5_part_15 ?_
        refine r_icmpge (tgt := 31) dX5_part_17 (by decide) (fun zh17 => ?_) (fun zh17 => ?_)
        · refine r_iconst (v := 0) rfl dX5_part_31 ?_
          exact r_iret hG dX5_part_32 (⟨by simp_all [partV, inR], rfl, rfl, rfl⟩)
        · refine r_aload_n 0 rfl dX5_part_20 ?_
          refine r_getr dX5_part_21 fl_X5_17 rfl (hM _ _ _ rfl) ?_
          refine r_iload_n 1 rfl dX5_part_24 ?_
          refine r_aald dX5_part_25 rfl (by decide) (vpin_of (N := 8) (by decide) zh1 zh7) (hrow16 hM (clampLt (N := 8) (by decide) zh1 zh7)) ?_
          refine r_iload_n 2 rfl dX5_part_26 ?_
          refine r_iald dX5_part_27 (hsr16 (clampLt (N := 8) (by decide) zh1 zh7)) (vpin_of (N := 6) (by decide) zh11 zh17) ?_
          refine r_goto (tgt := 32) dX5_part_28 (by decide) ?_
          exact r_iret hG dX5_part_32 (⟨by simp_all [partV, inR], rfl, rfl, rfl⟩)
set_option maxRecDepth 100000 in
theorem c_X5_setPart_16 (hM : x_Lay MR) {x y v : Int32} : Cf X yX5_setPart cX5_setPart 4 none 1 [.ref 16, .int x, .int y, .int v] n SH MI ML MR none (setPartM MI 16 x y v) ML MR := by
  refine Ct_of (by decide) (Nat.le_of_ble_eq_true rfl) (fun G hG => ?_)
  refine r_iload_n 1 rfl dX5_setPart_0 ?_
  refine r_iflt (tgt := 29) dX5_setPart_1 (by decide) (fun zh1 => ?_) (fun zh1 => ?_)
  · exact r_vret hG dX5_setPart_29 (⟨rfl, by simp_all [setPartM, inR], rfl, rfl⟩)
  · refine r_iload_n 1 rfl dX5_setPart_4 ?_
    refine r_bipush (v := 8) rfl dX5_setPart_5 ?_
    refine r_icmpge (tgt := 29) dX5_setPart_7 (by decide) (fun zh7 => ?_) (fun zh7 => ?_)
    · exact r_vret hG dX5_setPart_29 (⟨rfl, by simp_all [setPartM, inR], rfl, rfl⟩)
    · refine r_iload_n 2 rfl dX5_setPart_10 ?_
      refine r_iflt (tgt := 29) dX5_setPart_11 (by decide) (fun zh11 => ?_) (fun zh11 => ?_)
      · exact r_vret hG dX5_setPart_29 (⟨rfl, by simp_all [setPartM, inR], rfl, rfl⟩)
      · refine r_iload_n 2 rfl dX5_setPart_14 ?_
        refine r_bipush (v := 6) rfl dX5_setPart_15 ?_
        refine r_icmpge (tgt := 29) dX5_setPart_17 (by decide) (fun zh17 => ?_) (fun zh17 => ?_)
        · exact r_vret hG dX5_setPart_29 (⟨rfl, by simp_all [setPartM, inR], rfl, rfl⟩)
        · refine r_aload_n 0 rfl dX5_setPart_20 ?_
          refine r_getr dX5_setPart_21 fl_X5_17 rfl (hM _ _ _ rfl) ?_
          refine r_iload_n 1 rfl dX5_setPart_24 ?_
          refine r_aald dX5_setPart_25 rfl (by decide) (vpin_of (N := 8) (by decide) zh1 zh7) (hrow16 hM (clampLt (N := 8) (by decide) zh1 zh7)) ?_
          refine r_iload_n 2 rfl dX5_setPart_26 ?_
          refine r_iload_n 3 rfl dX5_setPart_27 ?_
          refine r_iast dX5_setPart_28 (hsr16 (clampLt (N := 8) (by decide) zh1 zh7)) (vpin_of (N := 6) (by decide) zh11 zh17) ?_
          exact r_vret hG dX5_setPart_29 (⟨rfl, by simp_all [setPartM, inR], rfl, rfl⟩)
set_option maxRecDepth 100000 in
theorem c_X5_clear_16 : Cf X yX5_clear cX5_clear 1 none 1 [.ref 16] n SH MI ML MR none (clearM MI 16) ML MR := by
  refine Ct_of (by decide) (Nat.le_of_ble_eq_true rfl) (fun G hG => ?_)
  refine r_aload_n 0 rfl dX5_clear_0 ?_
  refine r_iconst (v := 0) rfl dX5_clear_1 ?_
  refine r_puti dX5_clear_2 fl_X5_26 rfl rfl rfl ?_
  refine r_aload_n 0 rfl dX5_clear_5 ?_
  refine r_iconst (v := 0) rfl dX5_clear_6 ?_
  refine r_puti dX5_clear_7 fl_X5_30 rfl rfl rfl ?_
  refine r_aload_n 0 rfl dX5_clear_10 ?_
  refine r_iconst (v := 0) rfl dX5_clear_11 ?_
  refine r_puti dX5_clear_12 fl_X5_34 rfl rfl rfl ?_
  refine r_aload_n 0 rfl dX5_clear_15 ?_
  refine r_iconst (v := 0) rfl dX5_clear_16 ?_
  refine r_puti dX5_clear_17 fl_X5_37 rfl rfl rfl ?_
  refine r_aload_n 0 rfl dX5_clear_20 ?_
  refine r_iconst (v := 0) rfl dX5_clear_21 ?_
  refine r_puti dX5_clear_22 fl_X5_40 rfl rfl rfl ?_
  refine r_aload_n 0 rfl dX5_clear_25 ?_
  refine r_iconst (v := 0) rfl dX5_clear_26 ?_
  refine r_puti dX5_clear_27 fl_X5_43 rfl rfl rfl ?_
  refine r_aload_n 0 rfl dX5_clear_30 ?_
  refine r_iconst (v := 0) rfl dX5_clear_31 ?_
  refine r_puti dX5_clear_32 fl_X5_46 rfl rfl rfl ?_
  exact r_vret hG dX5_clear_35 (⟨rfl, rfl, rfl, rfl⟩)
set_option maxRecDepth 100000 in
theorem c_X5_addState_16 (hM : x_Lay MR) {x : Int32} : Cf X yX5_addState cX5_addState 2 none 2 [.ref 16, .int x] n SH MI ML MR none (u2 (placeM MI 17 6 (MI 16 1) x) 16 1 (placeM MI 17 6 (MI 16 1) x 16 1 + 1)) ML MR := by
  refine Ct_of (by decide) (Nat.le_of_ble_eq_true rfl) (fun G hG => ?_)
  refine r_aload_n 0 rfl dX5_addState_0 ?_
  refine r_getr dX5_addState_1 fl_X5_9 rfl (hM _ _ _ rfl) ?_
  refine r_aload_n 0 rfl dX5_addState_4 ?_
  refine r_geti dX5_addState_5 fl_X5_30 rfl ?_
  refine r_iload_n 1 rfl dX5_addState_8 ?_
  refine r_Sn [.ref _, .int _, .int _] dX5_addState_9 lk_X5_53 mb_X10_place sc_X10_place rfl (c_X10_place (N := 6) rfl (by decide)) rfl (Nat.le_of_ble_eq_true rfl) (rfl) ?_
  refine r_aload_n 0 rfl dX5_addState_12 ?_
  refine r_dup rfl dX5_addState_13 ?_
  refine r_geti dX5_addState_14 fl_X5_30 rfl ?_
  refine r_iconst (v := 1) rfl dX5_addState_17 ?_
  refine r_iadd dX5_addState_18 ?_
  refine r_puti dX5_addState_19 fl_X5_30 rfl rfl rfl ?_
  exact r_vret hG dX5_addState_22 (⟨rfl, rfl, rfl, rfl⟩)
set_option maxRecDepth 100000 in
theorem c_X5_addGate_16 (hM : x_Lay MR) {x y : Int32} : Cf X yX5_addGate cX5_addGate 3 none 2 [.ref 16, .int x, .int y] n SH MI ML MR none (u2 (placeM (placeM MI 27 16 (MI 16 8) x) 28 16 (placeM MI 27 16 (MI 16 8) x 16 8) y) 16 8 (placeM (placeM MI 27 16 (MI 16 8) x) 28 16 (placeM MI 27 16 (MI 16 8) x 16 8) y 16 8 + 1)) ML MR := by
  refine Ct_of (by decide) (Nat.le_of_ble_eq_true rfl) (fun G hG => ?_)
  refine r_aload_n 0 rfl dX5_addGate_0 ?_
  refine r_getr dX5_addGate_1 fl_X5_20 rfl (hM _ _ _ rfl) ?_
  refine r_aload_n 0 rfl dX5_addGate_4 ?_
  refine r_geti dX5_addGate_5 fl_X5_46 rfl ?_
  refine r_iload_n 1 rfl dX5_addGate_8 ?_
  refine r_Sn [.ref _, .int _, .int _] dX5_addGate_9 lk_X5_53 mb_X10_place sc_X10_place rfl (c_X10_place (N := 16) rfl (by decide)) rfl (Nat.le_of_ble_eq_true rfl) (rfl) ?_
  refine r_aload_n 0 rfl dX5_addGate_12 ?_
  refine r_getr dX5_addGate_13 fl_X5_23 rfl (hM _ _ _ rfl) ?_
  refine r_aload_n 0 rfl dX5_addGate_16 ?_
  refine r_geti dX5_addGate_17 fl_X5_46 rfl ?_
  refine r_iload_n 2 rfl dX5_addGate_20 ?_
  refine r_Sn [.ref _, .int _, .int _] dX5_addGate_21 lk_X5_53 mb_X10_place sc_X10_place rfl (c_X10_place (N := 16) rfl (by decide)) rfl (Nat.le_of_ble_eq_true rfl) (rfl) ?_
  refine r_aload_n 0 rfl dX5_addGate_24 ?_
  refine r_dup rfl dX5_addGate_25 ?_
  refine r_geti dX5_addGate_26 fl_X5_46 rfl ?_
  refine r_iconst (v := 1) rfl dX5_addGate_29 ?_
  refine r_iadd dX5_addGate_30 ?_
  refine r_puti dX5_addGate_31 fl_X5_46 rfl rfl rfl ?_
  exact r_vret hG dX5_addGate_34 (⟨rfl, rfl, rfl, rfl⟩)
set_option maxRecDepth 100000 in
theorem c_X5_burstInputs_1 (hM : x_Lay MR) {x : Int32} : Cf X yX5_burstInputs cX5_burstInputs 2 (some .int) 2 [.ref 1, .int x] n SH MI ML MR (some (.int (burstV MI 1 x))) MI ML MR := by
  refine Ct_of (by decide) (Nat.le_of_ble_eq_true rfl) (fun G hG => ?_)
  refine r_aload_n 0 rfl dX5_burstInputs_0 ?_
  refine r_iload_n 1 rfl dX5_burstInputs_1 ?_
  refine r_iconst (v := 2) rfl dX5_burstInputs_2 ?_
  refine r_Vf [.int _, .int _] dX5_burstInputs_3 lk_X5_49 mb_X5_part in_X5_part se_X5_part rfl (c_X5_part_1 hM) rfl rfl rfl (Nat.le_of_ble_eq_true rfl) (rfl) ?_
  refine r_aload_n 0 rfl dX5_burstInputs_6 ?_
  refine r_iload_n 1 rfl dX5_burstInputs_7 ?_
  refine r_iconst (v := 3) rfl dX5_burstInputs_8 ?_
  refine r_Vf [.int _, .int _] dX5_burstInputs_9 lk_X5_49 mb_X5_part in_X5_part se_X5_part rfl (c_X5_part_1 hM) rfl rfl rfl (Nat.le_of_ble_eq_true rfl) (rfl) ?_
  refine r_ior dX5_burstInputs_12 ?_
  exact r_iret hG dX5_burstInputs_13 (⟨rfl, rfl, rfl, rfl⟩)
set_option maxRecDepth 100000 in
theorem c_X5_leaves_1 (hM : x_Lay MR) {A : Nat} (hA : A ≤ 8) (hAr : MI 1 6 = nI A) {s : Int32} : Cf X yX5_leaves cX5_leaves 3 (some .boolean) 2 [.ref 1, .int s] n SH MI ML MR (some (.int (if leavesV MI 1 A s then 1 else 0))) MI ML MR := by
  refine Ct_of (by decide) (Nat.le_of_ble_eq_true rfl) (fun G hG => ?_)
  have loop : ∀ i, i ≤ A → (∀ k, k < i → ¬ partV MI 1 (nI k) 0 = s) → RW X G RX5 cX5_leaves 3 (x_rm 2 0 0) n SH MI ML MR 0 0 2 [(2, .int (nI i)), (0, .ref 1), (1, .int s)] [] := by
    refine bwd (fun i hi ih hk => ?_)
    refine r_iload_n 0 rfl dX5_leaves_2 ?_
    refine r_aload_n 1 rfl dX5_leaves_3 ?_
    refine r_geti dX5_leaves_4 fl_X5_43 rfl ?_
    refine r_icmpge (tgt := 28) dX5_leaves_7 (by decide) (fun zh7 => ?_) (fun zh7 => ?_)
    · rw [hAr] at zh7
      obtain rfl : i = A := by have := geL (k := A) (by omega) (by omega) zh7; omega
      refine r_iconst (v := 0) rfl dX5_leaves_28 ?_
      exact r_zret hG dX5_leaves_29 (rfl) (⟨by rw [if_neg (fun q => by obtain ⟨k, hk1, hk2⟩ := leavesV_t.mp q; exact hk k hk1 hk2)], rfl, rfl, rfl⟩)
    · rw [hAr] at zh7
      have hlt : i < A := ltL (by omega) zh7
      refine r_aload_n 1 rfl dX5_leaves_10 ?_
      refine r_iload_n 0 rfl dX5_leaves_11 ?_
      refine r_iconst (v := 0) rfl dX5_leaves_12 ?_
      refine r_Vf [.int _, .int _] dX5_leaves_13 lk_X5_49 mb_X5_part in_X5_part se_X5_part rfl (c_X5_part_1 hM) rfl rfl rfl (Nat.le_of_ble_eq_true rfl) (rfl) ?_
      refine r_iload_n 2 rfl dX5_leaves_16 ?_
      refine r_icmpne (tgt := 22) dX5_leaves_17 (by decide) (fun zh17 => ?_) (fun zh17 => ?_)
      · refine r_iinc (v := (nI (i + 1))) (ls2 := [(2, .int (nI (i + 1))), (0, .ref 1), (1, .int s)]) 0 dX5_leaves_22 rfl (x_inc i) (by decide) rfl ?_
        refine r_goto (tgt := 2) dX5_leaves_25 (by decide) ?_
        refine ih hlt (fun k hk2 => ?_)
        rcases Nat.lt_or_ge k i with q | q
        · exact hk k q
        · obtain rfl : k = i := by omega
          exact zh17
      · refine r_iconst (v := 1) rfl dX5_leaves_20 ?_
        exact r_zret hG dX5_leaves_21 (rfl) (⟨by rw [if_pos (leavesV_t.mpr ⟨i, hlt, zh17⟩)], rfl, rfl, rfl⟩)
  refine r_iconst (v := 0) rfl dX5_leaves_0 ?_
  refine r_istore_n (ls2 := [(2, .int 0), (0, .ref 1), (1, .int s)]) dX5_leaves_1 (by decide) rfl ?_
  exact loop 0 (by omega) (fun k hk => absurd hk (Nat.not_lt_zero k))
end mach

/-! Demands: at a, its rows z (zeros) and o (ones) -/
def bitZ (v : Int32) (f : Nat) : Bool := decide ((v >>> (nI f &&& 31)) &&& 1 = 0)
def wantZ (g : Nat → Int64) (v : Int32) (p : Int64) (m : Nat) : Nat → Int64 := fun k => if k < m ∧ bitZ v k = true then g k ||| p else g k
def wantO (g : Nat → Int64) (v : Int32) (p : Int64) (m : Nat) : Nat → Int64 := fun k => if k < m ∧ bitZ v k = false then g k ||| p else g k
def clashV (z o : Nat → Int64) : Bool := (List.range 5).any (fun k => decide (¬ z k &&& o k = 0))
theorem clashV_t {z o : Nat → Int64} : clashV z o = true ↔ ∃ k, k < 5 ∧ ¬ z k &&& o k = 0 := by
  unfold clashV
  simp only [List.any_eq_true, List.mem_range, decide_eq_true_eq]
def zeroTo (g : Nat → Int64) (m : Nat) : Nat → Int64 := fun k => if k < m then 0 else g k
def copyTo {α : Type} (g h : Nat → α) (m : Nat) : Nat → α := fun k => if k < m then h k else g k
/-- the cells of a Demands -/
def x_De (MR : Nat → Nat → Option Nat) (a z o : Nat) : Prop := SH[a]? = some (3, 2) ∧ MR a 0 = some z ∧ MR a 1 = some o ∧ SH[z]? = some (14, 5) ∧ SH[o]? = some (14, 5) ∧ z ≠ o
section dem
variable {X : xG} {n : Nat} {MI : Nat → Nat → Int32} {ML : Nat → Nat → Int64} {MR : Nat → Nat → Option Nat} {a z o : Nat}
set_option maxRecDepth 100000 in
theorem c_X3_zerosOf (h : x_De MR a z o) {x : Int32} : Cf X yX3_zerosOf cX3_zerosOf 2 (some .long) 1 [.ref a, .int x] n SH MI ML MR (some (.long (if inR x 5 then ML z x.toNatClampNeg else 0))) MI ML MR := by
  obtain ⟨ha, hz, ho, sz, so, zo⟩ := h
  refine Ct_of (by decide) (Nat.le_of_ble_eq_true rfl) (fun G hG => ?_)
  refine r_iload_n 1 rfl dX3_zerosOf_0 ?_
  refine r_iflt (tgt := 18) dX3_zerosOf_1 (by decide) (fun zh1 => ?_) (fun zh1 => ?_)
  · refine r_lconst (v := 0) rfl dX3_zerosOf_18 ?_
    exact r_lret hG dX3_zerosOf_19 (⟨by simp_all [inR], rfl, rfl, rfl⟩)
  · refine r_iload_n 1 rfl dX3_zerosOf_4 ?_
    refine r_iconst (v := 5) rfl dX3_zerosOf_5 ?_
    refine r_icmpge (tgt := 18) dX3_zerosOf_6 (by decide) (fun zh6 => ?_) (fun zh6 => ?_)
    · refine r_lconst (v := 0) rfl dX3_zerosOf_18 ?_
      exact r_lret hG dX3_zerosOf_19 (⟨by simp_all [inR], rfl, rfl, rfl⟩)
    · refine r_aload_n 0 rfl dX3_zerosOf_9 ?_
      refine r_getr dX3_zerosOf_10 fl_X3_9 ha hz ?_
      refine r_iload_n 1 rfl dX3_zerosOf_13 ?_
      refine r_lald dX3_zerosOf_14 sz (vpin_of (N := 5) (by decide) zh1 zh6) ?_
      refine r_goto (tgt := 19) dX3_zerosOf_15 (by decide) ?_
      exact r_lret hG dX3_zerosOf_19 (⟨by simp_all [inR], rfl, rfl, rfl⟩)
set_option maxRecDepth 100000 in
theorem c_X3_onesOf (h : x_De MR a z o) {x : Int32} : Cf X yX3_onesOf cX3_onesOf 2 (some .long) 1 [.ref a, .int x] n SH MI ML MR (some (.long (if inR x 5 then ML o x.toNatClampNeg else 0))) MI ML MR := by
  obtain ⟨ha, hz, ho, sz, so, zo⟩ := h
  refine Ct_of (by decide) (Nat.le_of_ble_eq_true rfl) (fun G hG => ?_)
  refine r_iload_n 1 rfl dX3_onesOf_0 ?_
  refine r_iflt (tgt := 18) dX3_onesOf_1 (by decide) (fun zh1 => ?_) (fun zh1 => ?_)
  · refine r_lconst (v := 0) rfl dX3_onesOf_18 ?_
    exact r_lret hG dX3_onesOf_19 (⟨by simp_all [inR], rfl, rfl, rfl⟩)
  · refine r_iload_n 1 rfl dX3_onesOf_4 ?_
    refine r_iconst (v := 5) rfl dX3_onesOf_5 ?_
    refine r_icmpge (tgt := 18) dX3_onesOf_6 (by decide) (fun zh6 => ?_) (fun zh6 => ?_)
    · refine r_lconst (v := 0) rfl dX3_onesOf_18 ?_
      exact r_lret hG dX3_onesOf_19 (⟨by simp_all [inR], rfl, rfl, rfl⟩)
    · refine r_aload_n 0 rfl dX3_onesOf_9 ?_
      refine r_getr dX3_onesOf_10 fl_X3_15 ha ho ?_
      refine r_iload_n 1 rfl dX3_onesOf_13 ?_
      refine r_lald dX3_onesOf_14 so (vpin_of (N := 5) (by decide) zh1 zh6) ?_
      refine r_goto (tgt := 19) dX3_onesOf_15 (by decide) ?_
      exact r_lret hG dX3_onesOf_19 (⟨by simp_all [inR], rfl, rfl, rfl⟩)
set_option maxRecDepth 100000 in
theorem c_X3_clear (h : x_De MR a z o) : Cf X yX3_clear cX3_clear 2 none 1 [.ref a] n SH MI ML MR none MI (sr (sr ML z (zeroTo (ML z) 5)) o (zeroTo (ML o) 5)) MR := by
  obtain ⟨ha, hz, ho, sz, so, zo⟩ := h
  refine Ct_of (by decide) (Nat.le_of_ble_eq_true rfl) (fun G hG => ?_)
  have loop : ∀ i, i ≤ 5 → RW X G RX3 cX3_clear 2 (x_rm 1 0 0) n SH MI (sr (sr ML z (zeroTo (ML z) i)) o (zeroTo (ML o) i)) MR 0 0 2 [(1, .int (nI i)), (0, .ref a)] [] := by
    refine bwd (fun i hi ih => ?_)
    refine r_iload_n 0 rfl dX3_clear_2 ?_
    refine r_iconst (v := 5) rfl dX3_clear_3 ?_
    refine r_icmpge (tgt := 27) dX3_clear_4 (by decide) (fun zh4 => ?_) (fun zh4 => ?_)
    · obtain rfl : i = 5 := by have := geL (k := 5) (by decide) (by omega) zh4; omega
      exact r_vret hG dX3_clear_27 (⟨rfl, rfl, rfl, rfl⟩)
    · have hlt : i < 5 := ltL (by omega) zh4
      refine r_aload_n 1 rfl dX3_clear_7 ?_
      refine r_getr dX3_clear_8 fl_X3_9 ha hz ?_
      refine r_iload_n 0 rfl dX3_clear_11 ?_
      refine r_lconst (v := 0) rfl dX3_clear_12 ?_
      refine r_last dX3_clear_13 sz (vp_in_nI hlt (by decide)) ?_
      refine r_aload_n 1 rfl dX3_clear_14 ?_
      refine r_getr dX3_clear_15 fl_X3_15 ha ho ?_
      refine r_iload_n 0 rfl dX3_clear_18 ?_
      refine r_lconst (v := 0) rfl dX3_clear_19 ?_
      refine r_last dX3_clear_20 so (vp_in_nI hlt (by decide)) ?_
      refine r_iinc (v := (nI (i + 1))) (ls2 := [(1, .int (nI (i + 1))), (0, .ref a)]) 0 dX3_clear_21 rfl (x_inc i) (by decide) rfl ?_
      refine r_goto (tgt := 2) dX3_clear_24 (by decide) ?_
      refine r_mem rfl ?_ rfl (ih hlt)
      rw [nI_clamp (by omega)]
      funext b k
      simp only [u2, sr, zeroTo]
      grind
  refine r_iconst (v := 0) rfl dX3_clear_0 ?_
  refine r_istore_n (ls2 := [(1, .int 0), (0, .ref a)]) dX3_clear_1 (by decide) rfl ?_
  refine r_mem rfl ?_ rfl (loop 0 (by decide))
  funext b k
  simp only [sr, zeroTo]
  grind
set_option maxRecDepth 100000 in
theorem c_X3_takeFrom {a2 z2 o2 : Nat} (h : x_De MR a z o) (h2 : x_De MR a2 z2 o2) (d1 : z ≠ z2) (d2 : z ≠ o2) (d3 : o ≠ z2) (d4 : o ≠ o2) : Cf X yX3_takeFrom cX3_takeFrom 3 none 1 [.ref a, .ref a2] n SH MI ML MR none MI (sr (sr ML z (copyTo (ML z) (ML z2) 5)) o (copyTo (ML o) (ML o2) 5)) MR := by
  obtain ⟨ha, hz, ho, sz, so, zo⟩ := h
  obtain ⟨ha2, hz2, ho2, sz2, so2, zo2⟩ := h2
  refine Ct_of (by decide) (Nat.le_of_ble_eq_true rfl) (fun G hG => ?_)
  have loop : ∀ i, i ≤ 5 → RW X G RX3 cX3_takeFrom 3 (x_rm 1 0 0) n SH MI (sr (sr ML z (copyTo (ML z) (ML z2) i)) o (copyTo (ML o) (ML o2) i)) MR 0 0 2 [(2, .int (nI i)), (0, .ref a), (1, .ref a2)] [] := by
    refine bwd (fun i hi ih => ?_)
    refine r_iload_n 0 rfl dX3_takeFrom_2 ?_
    refine r_iconst (v := 5) rfl dX3_takeFrom_3 ?_
    refine r_icmpge (tgt := 37) dX3_takeFrom_4 (by decide) (fun zh4 => ?_) (fun zh4 => ?_)
    · obtain rfl : i = 5 := by have := geL (k := 5) (by decide) (by omega) zh4; omega
      exact r_vret hG dX3_takeFrom_37 (⟨rfl, rfl, rfl, rfl⟩)
    · have hlt : i < 5 := ltL (by omega) zh4
      refine r_aload_n 1 rfl dX3_takeFrom_7 ?_
      refine r_getr dX3_takeFrom_8 fl_X3_9 ha hz ?_
      refine r_iload_n 0 rfl dX3_takeFrom_11 ?_
      refine r_aload_n 2 rfl dX3_takeFrom_12 ?_
      refine r_getr dX3_takeFrom_13 fl_X3_9 ha2 hz2 ?_
      refine r_iload_n 0 rfl dX3_takeFrom_16 ?_
      refine r_lald dX3_takeFrom_17 sz2 (vp_in_nI hlt (by decide)) ?_
      refine r_last dX3_takeFrom_18 sz (vp_in_nI hlt (by decide)) ?_
      refine r_aload_n 1 rfl dX3_takeFrom_19 ?_
      refine r_getr dX3_takeFrom_20 fl_X3_15 ha ho ?_
      refine r_iload_n 0 rfl dX3_takeFrom_23 ?_
      refine r_aload_n 2 rfl dX3_takeFrom_24 ?_
      refine r_getr dX3_takeFrom_25 fl_X3_15 ha2 ho2 ?_
      refine r_iload_n 0 rfl dX3_takeFrom_28 ?_
      refine r_lald dX3_takeFrom_29 so2 (vp_in_nI hlt (by decide)) ?_
      refine r_last dX3_takeFrom_30 so (vp_in_nI hlt (by decide)) ?_
      refine r_iinc (v := (nI (i + 1))) (ls2 := [(2, .int (nI (i + 1))), (0, .ref a), (1, .ref a2)]) 0 dX3_takeFrom_31 rfl (x_inc i) (by decide) rfl ?_
      refine r_goto (tgt := 2) dX3_takeFrom_34 (by decide) ?_
      refine r_mem rfl ?_ rfl (ih hlt)
      rw [nI_clamp (by omega)]
      funext b k
      simp only [u2, sr, copyTo]
      grind
  refine r_iconst (v := 0) rfl dX3_takeFrom_0 ?_
  refine r_istore_n (ls2 := [(2, .int 0), (0, .ref a), (1, .ref a2)]) dX3_takeFrom_1 (by decide) rfl ?_
  refine r_mem rfl ?_ rfl (loop 0 (by decide))
  funext b k
  simp only [sr, copyTo]
  grind
set_option maxRecDepth 100000 in
theorem c_X3_want (h : x_De MR a z o) {v : Int32} {p : Int64} : Cf X yX3_want cX3_want 5 none 1 [.ref a, .int v, .long p] n SH MI ML MR none MI (sr (sr ML z (wantZ (ML z) v p 5)) o (wantO (ML o) v p 5)) MR := by
  obtain ⟨ha, hz, ho, sz, so, zo⟩ := h
  refine Ct_of (by decide) (Nat.le_of_ble_eq_true rfl) (fun G hG => ?_)
  have loop : ∀ i, i ≤ 5 → RW X G RX3 cX3_want 5 (x_rm 1 0 0) n SH MI (sr (sr ML z (wantZ (ML z) v p i)) o (wantO (ML o) v p i)) MR 0 0 3 [(4, .int (nI i)), (0, .ref a), (1, .int v), (2, .long p)] [] := by
    refine bwd (fun i hi ih => ?_)
    refine r_iload 0 rfl dX3_want_3 ?_
    refine r_iconst (v := 5) rfl dX3_want_5 ?_
    refine r_icmpge (tgt := 49) dX3_want_6 (by decide) (fun zh6 => ?_) (fun zh6 => ?_)
    · obtain rfl : i = 5 := by have := geL (k := 5) (by decide) (by omega) zh6; omega
      exact r_vret hG dX3_want_49 (⟨rfl, rfl, rfl, rfl⟩)
    · have hlt : i < 5 := ltL (by omega) zh6
      refine r_iload_n 2 rfl dX3_want_9 ?_
      refine r_iload 0 rfl dX3_want_10 ?_
      refine r_ishr dX3_want_12 ?_
      refine r_iconst (v := 1) rfl dX3_want_13 ?_
      refine r_iand dX3_want_14 ?_
      refine r_ifeq (tgt := 32) dX3_want_15 (by decide) (fun zh15 => ?_) (fun zh15 => ?_)
      · refine r_aload_n 1 rfl dX3_want_32 ?_
        refine r_getr dX3_want_33 fl_X3_9 ha hz ?_
        refine r_iload 0 rfl dX3_want_36 ?_
        refine r_dup2 rfl rfl dX3_want_38 ?_
        refine r_lald dX3_want_39 sz (vp_in_nI hlt (by decide)) ?_
        refine r_lload_n 3 rfl dX3_want_40 ?_
        refine r_lor dX3_want_41 ?_
        refine r_last dX3_want_42 sz (vp_in_nI hlt (by decide)) ?_
        refine r_iinc (v := (nI (i + 1))) (ls2 := [(4, .int (nI (i + 1))), (0, .ref a), (1, .int v), (2, .long p)]) 0 dX3_want_43 rfl (x_inc i) (by decide) rfl ?_
        refine r_goto (tgt := 3) dX3_want_46 (by decide) ?_
        refine r_mem rfl ?_ rfl (ih hlt)
        have hb : bitZ v i = decide ((v >>> (nI i &&& 31)) &&& 1 = 0) := rfl
        rw [nI_clamp (by omega)]
        funext b k
        simp only [u2, sr, wantZ, wantO]
        grind
      · refine r_aload_n 1 rfl dX3_want_18 ?_
        refine r_getr dX3_want_19 fl_X3_15 ha ho ?_
        refine r_iload 0 rfl dX3_want_22 ?_
        refine r_dup2 rfl rfl dX3_want_24 ?_
        refine r_lald dX3_want_25 so (vp_in_nI hlt (by decide)) ?_
        refine r_lload_n 3 rfl dX3_want_26 ?_
        refine r_lor dX3_want_27 ?_
        refine r_last dX3_want_28 so (vp_in_nI hlt (by decide)) ?_
        refine r_goto (tgt := 43) dX3_want_29 (by decide) ?_
        refine r_iinc (v := (nI (i + 1))) (ls2 := [(4, .int (nI (i + 1))), (0, .ref a), (1, .int v), (2, .long p)]) 0 dX3_want_43 rfl (x_inc i) (by decide) rfl ?_
        refine r_goto (tgt := 3) dX3_want_46 (by decide) ?_
        refine r_mem rfl ?_ rfl (ih hlt)
        have hb : bitZ v i = decide ((v >>> (nI i &&& 31)) &&& 1 = 0) := rfl
        rw [nI_clamp (by omega)]
        funext b k
        simp only [u2, sr, wantZ, wantO]
        grind
  refine r_iconst (v := 0) rfl dX3_want_0 ?_
  refine r_istore (ls2 := [(4, .int 0), (0, .ref a), (1, .int v), (2, .long p)]) dX3_want_1 (by decide) rfl ?_
  refine r_mem rfl ?_ rfl (loop 0 (by decide))
  funext b k
  simp only [sr, wantZ, wantO]
  grind
set_option maxRecDepth 100000 in
theorem c_X3_clash (h : x_De MR a z o) : Cf X yX3_clash cX3_clash 2 (some .boolean) 1 [.ref a] n SH MI ML MR (some (.int (if clashV (ML z) (ML o) then 1 else 0))) MI ML MR := by
  obtain ⟨ha, hz, ho, sz, so, zo⟩ := h
  refine Ct_of (by decide) (Nat.le_of_ble_eq_true rfl) (fun G hG => ?_)
  have loop : ∀ i, i ≤ 5 → (∀ k, k < i → ML z k &&& ML o k = 0) → RW X G RX3 cX3_clash 2 (x_rm 1 0 0) n SH MI ML MR 0 0 2 [(1, .int (nI i)), (0, .ref a)] [] := by
    refine bwd (fun i hi ih hk => ?_)
    refine r_iload_n 0 rfl dX3_clash_2 ?_
    refine r_iconst (v := 5) rfl dX3_clash_3 ?_
    refine r_icmpge (tgt := 33) dX3_clash_4 (by decide) (fun zh4 => ?_) (fun zh4 => ?_)
    · have zh5 := geL (k := 5) (by decide) (by omega) zh4
      refine r_iconst (v := 0) rfl dX3_clash_33 ?_
      exact r_zret hG dX3_clash_34 (rfl) (⟨by rw [if_neg (fun q => by obtain ⟨k, hk1, hk2⟩ := clashV_t.mp q; exact hk2 (hk k (by omega)))], rfl, rfl, rfl⟩)
    · have hlt : i < 5 := ltL (by omega) zh4
      refine r_aload_n 1 rfl dX3_clash_7 ?_
      refine r_getr dX3_clash_8 fl_X3_9 ha hz ?_
      refine r_iload_n 0 rfl dX3_clash_11 ?_
      refine r_lald dX3_clash_12 sz (vp_in_nI hlt (by decide)) ?_
      refine r_aload_n 1 rfl dX3_clash_13 ?_
      refine r_getr dX3_clash_14 fl_X3_15 ha ho ?_
      refine r_iload_n 0 rfl dX3_clash_17 ?_
      refine r_lald dX3_clash_18 so (vp_in_nI hlt (by decide)) ?_
      refine r_land dX3_clash_19 ?_
      refine r_lconst (v := 0) rfl dX3_clash_20 ?_
      refine r_lcmp dX3_clash_21 ?_
      refine r_ifeq (tgt := 27) dX3_clash_22 (by decide) (fun zh22 => ?_) (fun zh22 => ?_)
      · rw [lcmp_eq, nI_clamp (by omega)] at zh22
        refine r_iinc (v := (nI (i + 1))) (ls2 := [(1, .int (nI (i + 1))), (0, .ref a)]) 0 dX3_clash_27 rfl (x_inc i) (by decide) rfl ?_
        refine r_goto (tgt := 2) dX3_clash_30 (by decide) ?_
        refine ih hlt (fun k hk2 => ?_)
        rcases Nat.lt_or_ge k i with q | q
        · exact hk k q
        · obtain rfl : k = i := by omega
          exact zh22
      · rw [lcmp_eq, nI_clamp (by omega)] at zh22
        refine r_iconst (v := 1) rfl dX3_clash_25 ?_
        exact r_zret hG dX3_clash_26 (rfl) (⟨by rw [if_pos (clashV_t.mpr ⟨i, hlt, zh22⟩)], rfl, rfl, rfl⟩)
  refine r_iconst (v := 0) rfl dX3_clash_0 ?_
  refine r_istore_n (ls2 := [(1, .int 0), (0, .ref a)]) dX3_clash_1 (by decide) rfl ?_
  exact loop 0 (by decide) (fun k hk => absurd hk (Nat.not_lt_zero k))
end dem

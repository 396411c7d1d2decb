/-! the calls that look at what was found of a FUNCTION -/
theorem shE_funTr {MI W : Nat → Nat → Int32} {ML B : Nat → Nat → Int64} {A : Nat} (h : shE MI ML A W B) (x : Int32) : funTr W x = funTr MI x := by
  unfold funTr machTr
  rw [h.1 1 (by decide) (by decide), h.1 43 (by decide) (by decide)]
theorem funTr_u {W : Nat → Nat → Int32} {y : Int32} (x : Int32) : funTr (u2 W 0 8 y) x = funTr W x := rfl
def fewTr (MI : Nat → Nat → Int32) (x : Int32) : Int32 := if funTr MI x = 0 then (if hasF (MI (89 + 7 * x.toNatClampNeg) 13) = true then 0 else 5) else funTr MI x
theorem fewTr_u {W : Nat → Nat → Int32} {y : Int32} (x : Int32) : fewTr (u2 W 0 8 y) x = fewTr W x := by
  unfold fewTr
  rw [funTr_u, u2_row _ _ (by omega)]
/-- what a call that looks at FUNCTION x's sheet leaves: ans out of the memory behind it; its sheet is filled if it was asked -/
def shQ (MI : Nat → Nat → Int32) (ML : Nat → Nat → Int64) (MR : Nat → Nat → Option Nat) (A : Nat) (x : Int32) (q : Prop) (ans : (Nat → Nat → Int32) → Int32 × Int32) : xQ := fun r W B C => C = MR ∧ shE MI ML A W B ∧ r = some (.int (ans W).1) ∧ W 0 8 = (ans W).2 ∧ (q → funTr W x = 0 → W (89 + 7 * x.toNatClampNeg) 4 = 1)
def fdAns (j : Nat) (x : Int32) (W : Nat → Nat → Int32) : Int32 × Int32 := if funTr W x = 0 then (W (89 + 7 * x.toNatClampNeg) j, 0) else (-1, funTr W x)
def fgAns (j : Nat) (x : Int32) (W : Nat → Nat → Int32) : Int32 × Int32 := if fewTr W x = 0 then (W (89 + 7 * x.toNatClampNeg) j, 0) else (-1, fewTr W x)
def ixAns (j d N : Nat) (x y : Int32) (W : Nat → Nat → Int32) : Int32 × Int32 := if funTr W x = 0 then (if inR y (W (89 + 7 * x.toNatClampNeg) j) = true then (pickV (W (89 + 7 * x.toNatClampNeg + d)) N y, 0) else (-1, 1)) else (-1, funTr W x)
def igAns (j d N : Nat) (x y : Int32) (W : Nat → Nat → Int32) : Int32 × Int32 := if fewTr W x = 0 then (if inR y (W (89 + 7 * x.toNatClampNeg) j) = true then (pickV (W (89 + 7 * x.toNatClampNeg + d)) N y, 0) else (-1, 1)) else (-1, fewTr W x)
theorem u2_8 {W : Nat → Nat → Int32} {x y : Int32} (h : W 0 8 = x) : u2 W 0 8 y 0 8 = y := u2_eq _ _ _ _
theorem sq_no {MI : Nat → Nat → Int32} {ML : Nat → Nat → Int64} {MR : Nat → Nat → Option Nat} {A : Nat} {x y w : Int32} {q : Prop} {ans : (Nat → Nat → Int32) → Int32 × Int32} (hI : shI MI ML A) (ha : ans (u2 MI 0 8 w) = (y, w)) (hx : q → ¬ funTr MI x = 0) : shQ MI ML MR A x q ans (some (.int y)) (u2 MI 0 8 w) ML MR := ⟨rfl, shE_w (shE_rf hI), by rw [ha], by rw [ha]; exact u2_eq _ _ _ _, fun z q => absurd q (hx z)⟩
theorem sq_yes {MI W : Nat → Nat → Int32} {ML B : Nat → Nat → Int64} {MR : Nat → Nat → Option Nat} {A : Nat} {x y w : Int32} {q : Prop} {ans : (Nat → Nat → Int32) → Int32 × Int32} (hE : shE MI ML A W B) (ha : ans (u2 W 0 8 w) = (y, w)) (h4 : q → funTr W x = 0 → W (89 + 7 * x.toNatClampNeg) 4 = 1) : shQ MI ML MR A x q ans (some (.int y)) (u2 W 0 8 w) B MR := ⟨rfl, shE_w hE, by rw [ha], by rw [ha]; exact u2_eq _ _ _ _, fun z q => by rw [u2_row _ _ (by omega)]; exact h4 z q⟩
theorem shE_A {MI W : Nat → Nat → Int32} {ML B : Nat → Nat → Int64} {A : Nat} (h : shE MI ML A W B) (hAr : MI 1 6 = nI A) : W 1 6 = nI A := by rw [h.1 1 (by decide) (by decide)]; exact hAr
theorem fewTr_f {W : Nat → Nat → Int32} {x : Int32} (h : fewTr W x = 0) : funTr W x = 0 := by
  unfold fewTr at h
  split at h
  · assumption
  · exact h
theorem fewTr_ex {W : Nat → Nat → Int32} {x : Int32} (h : fewTr W x = 0) : (∃ f, f < 5 ∧ x = nI f) ∧ machTr W = 0 := funTr_ex (fewTr_f h)
section calls
variable {X : xG} {n : Nat} {MI : Nat → Nat → Int32} {ML : Nat → Nat → Int64} {MR : Nat → Nat → Option Nat}
set_option maxRecDepth 100000 in
theorem c_X10_fewestTrouble (hM : x_Lay MR) (hS2 : x_S2 X) {A : Nat} (hA : A ≤ 8) (hAr : MI 1 6 = nI A) (hI : shI MI ML A) {x : Int32} : Ct X yX10_fewestTrouble cX10_fewestTrouble 3 (some .int) 12 0 0 [.ref 0, .int x] n SH MI ML MR n SH (fun r W B C => C = MR ∧ shE MI ML A W B ∧ W 0 = MI 0 ∧ r = some (.int (fewTr W x)) ∧ (funTr W x = 0 → W (89 + 7 * x.toNatClampNeg) 4 = 1)) := by
  refine Ct_of (by decide) (Nat.le_of_ble_eq_true rfl) (fun G hG => ?_)
  refine r_aload_n 0 rfl dX10_fewestTrouble_0 ?_
  refine r_iload_n 1 rfl dX10_fewestTrouble_1 ?_
  refine r_Vf [.int _] dX10_fewestTrouble_2 lk_X10_172 mb_X10_functionTrouble in_X10_functionTrouble se_X10_functionTrouble rfl (c_X10_functionTrouble hM) rfl rfl rfl (Nat.le_of_ble_eq_true rfl) (rfl) ?_
  refine r_istore_n (ls2 := [(2, .int (funTr MI x)), (0, .ref 0), (1, .int x)]) dX10_fewestTrouble_5 (by decide) rfl ?_
  refine r_iload_n 0 rfl dX10_fewestTrouble_6 ?_
  refine r_ifeq (tgt := 12) dX10_fewestTrouble_7 (by decide) (fun zh7 => ?_) (fun zh7 => ?_)
  · obtain ⟨⟨f, hf, rfl⟩, hmt⟩ := funTr_ex zh7
    refine r_aload_n 1 rfl dX10_fewestTrouble_12 ?_
    refine r_iload_n 2 rfl dX10_fewestTrouble_13 ?_
    refine r_Vg [.int _] dX10_fewestTrouble_14 lk_X10_194 mb_X10_sheetOf in_X10_sheetOf se_X10_sheetOf rfl (c_X10_sheetOf hM hS2 hA hAr hI hf) rfl rfl rfl (Nat.le_of_ble_eq_true rfl) (rfl) (fun r W B C hz => ?_)
    obtain ⟨rfl, rfl, hE, h0, h4, hs⟩ := hz
    show RW X G _ _ _ _ _ _ _ _ _ _ _ _ _ [.ref (89 + 7 * f)]
    refine r_Vf [] dX10_fewestTrouble_17 lk_X10_284 mb_X7_hasFewest in_X7_hasFewest se_X7_hasFewest rfl (c_X7_hasFewest (shOf hM hf)) (shOf hM hf).1 rfl rfl (Nat.le_of_ble_eq_true rfl) (rfl) ?_
    refine r_ifeq (tgt := 27) dX10_fewestTrouble_20 (by decide) (fun zh20 => ?_) (fun zh20 => ?_)
    · refine r_iconst (v := 5) rfl dX10_fewestTrouble_27 ?_
      exact r_iret hG dX10_fewestTrouble_28 (⟨rfl, hE, h0, by unfold fewTr; rw [shE_funTr hE, if_pos zh7, nI_clamp (by omega)]; (first | rw [if_pos (show hasF (W (89 + 7 * f) 13) = true by simpa [b2z] using zh20)] | rw [if_neg (show ¬ hasF (W (89 + 7 * f) 13) = true by simpa [b2z] using zh20)]), fun _ => by rw [nI_clamp (by omega)]; exact h4⟩)
    · refine r_iconst (v := 0) rfl dX10_fewestTrouble_23 ?_
      refine r_goto (tgt := 28) dX10_fewestTrouble_24 (by decide) ?_
      exact r_iret hG dX10_fewestTrouble_28 (⟨rfl, hE, h0, by unfold fewTr; rw [shE_funTr hE, if_pos zh7, nI_clamp (by omega)]; (first | rw [if_pos (show hasF (W (89 + 7 * f) 13) = true by simpa [b2z] using zh20)] | rw [if_neg (show ¬ hasF (W (89 + 7 * f) 13) = true by simpa [b2z] using zh20)]), fun _ => by rw [nI_clamp (by omega)]; exact h4⟩)
  · refine r_iload_n 0 rfl dX10_fewestTrouble_10 ?_
    exact r_iret hG dX10_fewestTrouble_11 (⟨rfl, shE_rf hI, rfl, by unfold fewTr; rw [if_neg zh7], fun q => absurd q zh7⟩)
set_option maxRecDepth 100000 in
theorem c_X10_required (hM : x_Lay MR) (hS2 : x_S2 X) {A : Nat} (hA : A ≤ 8) (hAr : MI 1 6 = nI A) (hI : shI MI ML A) {x : Int32} : Ct X yX10_required cX10_required 3 (some .int) 12 0 0 [.ref 0, .int x] n SH MI ML MR n SH (shQ MI ML MR A x True (fdAns 6 x)) := by
  refine Ct_of (by decide) (Nat.le_of_ble_eq_true rfl) (fun G hG => ?_)
  refine r_aload_n 0 rfl dX10_required_0 ?_
  refine r_iload_n 1 rfl dX10_required_1 ?_
  refine r_Vf [.int _] dX10_required_2 lk_X10_172 mb_X10_functionTrouble in_X10_functionTrouble se_X10_functionTrouble rfl (c_X10_functionTrouble hM) rfl rfl rfl (Nat.le_of_ble_eq_true rfl) (rfl) ?_
  refine r_istore_n (ls2 := [(2, .int (funTr MI x)), (0, .ref 0), (1, .int x)]) dX10_required_5 (by decide) rfl ?_
  refine r_iload_n 0 rfl dX10_required_6 ?_
  refine r_ifne (tgt := 25) dX10_required_7 (by decide) (fun zh7 => ?_) (fun zh7 => ?_)
  · refine r_aload_n 1 rfl dX10_required_25 ?_
    refine r_iload_n 0 rfl dX10_required_26 ?_
    refine r_Vf [.int _] dX10_required_27 lk_X10_86 mb_X10_refuse in_X10_refuse se_X10_refuse rfl (c_X10_refuse) rfl rfl rfl (Nat.le_of_ble_eq_true rfl) (rfl) ?_
    exact r_iret hG dX10_required_30 (by first | exact sq_no hI (by unfold fdAns; rw [funTr_u, if_neg zh7]) (fun _ => zh7) | exact sq_yes hE (by unfold fdAns; rw [funTr_u, shE_funTr hE, if_pos zh7, nI_clamp (by omega), u2_row _ _ (by omega)]) (fun _ _ => by rw [nI_clamp (by omega)]; exact h4))
  · obtain ⟨⟨f, hf, rfl⟩, hmt⟩ := funTr_ex zh7
    refine r_aload_n 1 rfl dX10_required_10 ?_
    refine r_aload_n 1 rfl dX10_required_11 ?_
    refine r_iload_n 2 rfl dX10_required_12 ?_
    refine r_Vg [.int _] dX10_required_13 lk_X10_194 mb_X10_sheetOf in_X10_sheetOf se_X10_sheetOf rfl (c_X10_sheetOf hM hS2 hA hAr hI hf) rfl rfl rfl (Nat.le_of_ble_eq_true rfl) (rfl) (fun r W B C hz => ?_)
    obtain ⟨rfl, rfl, hE, h0, h4, hs⟩ := hz
    show RW X G _ _ _ _ _ _ _ _ _ _ _ _ _ [.ref (89 + 7 * f), .ref 0]
    refine r_geti dX10_required_16 fl_X10_198 (shOf hM hf).1 ?_
    refine r_Vf [.int _] dX10_required_19 lk_X10_115 mb_X10_told in_X10_told se_X10_told rfl (c_X10_told) rfl rfl rfl (Nat.le_of_ble_eq_true rfl) (rfl) ?_
    refine r_goto (tgt := 30) dX10_required_22 (by decide) ?_
    exact r_iret hG dX10_required_30 (by first | exact sq_no hI (by unfold fdAns; rw [funTr_u, if_neg zh7]) (fun _ => zh7) | exact sq_yes hE (by unfold fdAns; rw [funTr_u, shE_funTr hE, if_pos zh7, nI_clamp (by omega), u2_row _ _ (by omega)]) (fun _ _ => by rw [nI_clamp (by omega)]; exact h4))
set_option maxRecDepth 100000 in
theorem c_X10_falls (hM : x_Lay MR) (hS2 : x_S2 X) {A : Nat} (hA : A ≤ 8) (hAr : MI 1 6 = nI A) (hI : shI MI ML A) {x : Int32} : Ct X yX10_falls cX10_falls 3 (some .int) 12 0 0 [.ref 0, .int x] n SH MI ML MR n SH (shQ MI ML MR A x True (fdAns 9 x)) := by
  refine Ct_of (by decide) (Nat.le_of_ble_eq_true rfl) (fun G hG => ?_)
  refine r_aload_n 0 rfl dX10_falls_0 ?_
  refine r_iload_n 1 rfl dX10_falls_1 ?_
  refine r_Vf [.int _] dX10_falls_2 lk_X10_172 mb_X10_functionTrouble in_X10_functionTrouble se_X10_functionTrouble rfl (c_X10_functionTrouble hM) rfl rfl rfl (Nat.le_of_ble_eq_true rfl) (rfl) ?_
  refine r_istore_n (ls2 := [(2, .int (funTr MI x)), (0, .ref 0), (1, .int x)]) dX10_falls_5 (by decide) rfl ?_
  refine r_iload_n 0 rfl dX10_falls_6 ?_
  refine r_ifne (tgt := 25) dX10_falls_7 (by decide) (fun zh7 => ?_) (fun zh7 => ?_)
  · refine r_aload_n 1 rfl dX10_falls_25 ?_
    refine r_iload_n 0 rfl dX10_falls_26 ?_
    refine r_Vf [.int _] dX10_falls_27 lk_X10_86 mb_X10_refuse in_X10_refuse se_X10_refuse rfl (c_X10_refuse) rfl rfl rfl (Nat.le_of_ble_eq_true rfl) (rfl) ?_
    exact r_iret hG dX10_falls_30 (by first | exact sq_no hI (by unfold fdAns; rw [funTr_u, if_neg zh7]) (fun _ => zh7) | exact sq_yes hE (by unfold fdAns; rw [funTr_u, shE_funTr hE, if_pos zh7, nI_clamp (by omega), u2_row _ _ (by omega)]) (fun _ _ => by rw [nI_clamp (by omega)]; exact h4))
  · obtain ⟨⟨f, hf, rfl⟩, hmt⟩ := funTr_ex zh7
    refine r_aload_n 1 rfl dX10_falls_10 ?_
    refine r_aload_n 1 rfl dX10_falls_11 ?_
    refine r_iload_n 2 rfl dX10_falls_12 ?_
    refine r_Vg [.int _] dX10_falls_13 lk_X10_194 mb_X10_sheetOf in_X10_sheetOf se_X10_sheetOf rfl (c_X10_sheetOf hM hS2 hA hAr hI hf) rfl rfl rfl (Nat.le_of_ble_eq_true rfl) (rfl) (fun r W B C hz => ?_)
    obtain ⟨rfl, rfl, hE, h0, h4, hs⟩ := hz
    show RW X G _ _ _ _ _ _ _ _ _ _ _ _ _ [.ref (89 + 7 * f), .ref 0]
    refine r_geti dX10_falls_16 fl_X10_204 (shOf hM hf).1 ?_
    refine r_Vf [.int _] dX10_falls_19 lk_X10_115 mb_X10_told in_X10_told se_X10_told rfl (c_X10_told) rfl rfl rfl (Nat.le_of_ble_eq_true rfl) (rfl) ?_
    refine r_goto (tgt := 30) dX10_falls_22 (by decide) ?_
    exact r_iret hG dX10_falls_30 (by first | exact sq_no hI (by unfold fdAns; rw [funTr_u, if_neg zh7]) (fun _ => zh7) | exact sq_yes hE (by unfold fdAns; rw [funTr_u, shE_funTr hE, if_pos zh7, nI_clamp (by omega), u2_row _ _ (by omega)]) (fun _ _ => by rw [nI_clamp (by omega)]; exact h4))
set_option maxRecDepth 100000 in
theorem c_X10_primes (hM : x_Lay MR) (hS2 : x_S2 X) {A : Nat} (hA : A ≤ 8) (hAr : MI 1 6 = nI A) (hI : shI MI ML A) {x : Int32} : Ct X yX10_primes cX10_primes 3 (some .int) 12 0 0 [.ref 0, .int x] n SH MI ML MR n SH (shQ MI ML MR A x True (fdAns 11 x)) := by
  refine Ct_of (by decide) (Nat.le_of_ble_eq_true rfl) (fun G hG => ?_)
  refine r_aload_n 0 rfl dX10_primes_0 ?_
  refine r_iload_n 1 rfl dX10_primes_1 ?_
  refine r_Vf [.int _] dX10_primes_2 lk_X10_172 mb_X10_functionTrouble in_X10_functionTrouble se_X10_functionTrouble rfl (c_X10_functionTrouble hM) rfl rfl rfl (Nat.le_of_ble_eq_true rfl) (rfl) ?_
  refine r_istore_n (ls2 := [(2, .int (funTr MI x)), (0, .ref 0), (1, .int x)]) dX10_primes_5 (by decide) rfl ?_
  refine r_iload_n 0 rfl dX10_primes_6 ?_
  refine r_ifne (tgt := 25) dX10_primes_7 (by decide) (fun zh7 => ?_) (fun zh7 => ?_)
  · refine r_aload_n 1 rfl dX10_primes_25 ?_
    refine r_iload_n 0 rfl dX10_primes_26 ?_
    refine r_Vf [.int _] dX10_primes_27 lk_X10_86 mb_X10_refuse in_X10_refuse se_X10_refuse rfl (c_X10_refuse) rfl rfl rfl (Nat.le_of_ble_eq_true rfl) (rfl) ?_
    exact r_iret hG dX10_primes_30 (by first | exact sq_no hI (by unfold fdAns; rw [funTr_u, if_neg zh7]) (fun _ => zh7) | exact sq_yes hE (by unfold fdAns; rw [funTr_u, shE_funTr hE, if_pos zh7, nI_clamp (by omega), u2_row _ _ (by omega)]) (fun _ _ => by rw [nI_clamp (by omega)]; exact h4))
  · obtain ⟨⟨f, hf, rfl⟩, hmt⟩ := funTr_ex zh7
    refine r_aload_n 1 rfl dX10_primes_10 ?_
    refine r_aload_n 1 rfl dX10_primes_11 ?_
    refine r_iload_n 2 rfl dX10_primes_12 ?_
    refine r_Vg [.int _] dX10_primes_13 lk_X10_194 mb_X10_sheetOf in_X10_sheetOf se_X10_sheetOf rfl (c_X10_sheetOf hM hS2 hA hAr hI hf) rfl rfl rfl (Nat.le_of_ble_eq_true rfl) (rfl) (fun r W B C hz => ?_)
    obtain ⟨rfl, rfl, hE, h0, h4, hs⟩ := hz
    show RW X G _ _ _ _ _ _ _ _ _ _ _ _ _ [.ref (89 + 7 * f), .ref 0]
    refine r_geti dX10_primes_16 fl_X10_217 (shOf hM hf).1 ?_
    refine r_Vf [.int _] dX10_primes_19 lk_X10_115 mb_X10_told in_X10_told se_X10_told rfl (c_X10_told) rfl rfl rfl (Nat.le_of_ble_eq_true rfl) (rfl) ?_
    refine r_goto (tgt := 30) dX10_primes_22 (by decide) ?_
    exact r_iret hG dX10_primes_30 (by first | exact sq_no hI (by unfold fdAns; rw [funTr_u, if_neg zh7]) (fun _ => zh7) | exact sq_yes hE (by unfold fdAns; rw [funTr_u, shE_funTr hE, if_pos zh7, nI_clamp (by omega), u2_row _ _ (by omega)]) (fun _ _ => by rw [nI_clamp (by omega)]; exact h4))
set_option maxRecDepth 100000 in
theorem c_X10_needed (hM : x_Lay MR) (hS2 : x_S2 X) {A : Nat} (hA : A ≤ 8) (hAr : MI 1 6 = nI A) (hI : shI MI ML A) {x : Int32} : Ct X yX10_needed cX10_needed 3 (some .int) 12 0 0 [.ref 0, .int x] n SH MI ML MR n SH (shQ MI ML MR A x True (fdAns 14 x)) := by
  refine Ct_of (by decide) (Nat.le_of_ble_eq_true rfl) (fun G hG => ?_)
  refine r_aload_n 0 rfl dX10_needed_0 ?_
  refine r_iload_n 1 rfl dX10_needed_1 ?_
  refine r_Vf [.int _] dX10_needed_2 lk_X10_172 mb_X10_functionTrouble in_X10_functionTrouble se_X10_functionTrouble rfl (c_X10_functionTrouble hM) rfl rfl rfl (Nat.le_of_ble_eq_true rfl) (rfl) ?_
  refine r_istore_n (ls2 := [(2, .int (funTr MI x)), (0, .ref 0), (1, .int x)]) dX10_needed_5 (by decide) rfl ?_
  refine r_iload_n 0 rfl dX10_needed_6 ?_
  refine r_ifne (tgt := 25) dX10_needed_7 (by decide) (fun zh7 => ?_) (fun zh7 => ?_)
  · refine r_aload_n 1 rfl dX10_needed_25 ?_
    refine r_iload_n 0 rfl dX10_needed_26 ?_
    refine r_Vf [.int _] dX10_needed_27 lk_X10_86 mb_X10_refuse in_X10_refuse se_X10_refuse rfl (c_X10_refuse) rfl rfl rfl (Nat.le_of_ble_eq_true rfl) (rfl) ?_
    exact r_iret hG dX10_needed_30 (by first | exact sq_no hI (by unfold fdAns; rw [funTr_u, if_neg zh7]) (fun _ => zh7) | exact sq_yes hE (by unfold fdAns; rw [funTr_u, shE_funTr hE, if_pos zh7, nI_clamp (by omega), u2_row _ _ (by omega)]) (fun _ _ => by rw [nI_clamp (by omega)]; exact h4))
  · obtain ⟨⟨f, hf, rfl⟩, hmt⟩ := funTr_ex zh7
    refine r_aload_n 1 rfl dX10_needed_10 ?_
    refine r_aload_n 1 rfl dX10_needed_11 ?_
    refine r_iload_n 2 rfl dX10_needed_12 ?_
    refine r_Vg [.int _] dX10_needed_13 lk_X10_194 mb_X10_sheetOf in_X10_sheetOf se_X10_sheetOf rfl (c_X10_sheetOf hM hS2 hA hAr hI hf) rfl rfl rfl (Nat.le_of_ble_eq_true rfl) (rfl) (fun r W B C hz => ?_)
    obtain ⟨rfl, rfl, hE, h0, h4, hs⟩ := hz
    show RW X G _ _ _ _ _ _ _ _ _ _ _ _ _ [.ref (89 + 7 * f), .ref 0]
    refine r_geti dX10_needed_16 fl_X10_223 (shOf hM hf).1 ?_
    refine r_Vf [.int _] dX10_needed_19 lk_X10_115 mb_X10_told in_X10_told se_X10_told rfl (c_X10_told) rfl rfl rfl (Nat.le_of_ble_eq_true rfl) (rfl) ?_
    refine r_goto (tgt := 30) dX10_needed_22 (by decide) ?_
    exact r_iret hG dX10_needed_30 (by first | exact sq_no hI (by unfold fdAns; rw [funTr_u, if_neg zh7]) (fun _ => zh7) | exact sq_yes hE (by unfold fdAns; rw [funTr_u, shE_funTr hE, if_pos zh7, nI_clamp (by omega), u2_row _ _ (by omega)]) (fun _ _ => by rw [nI_clamp (by omega)]; exact h4))
set_option maxRecDepth 100000 in
theorem c_X10_lacking (hM : x_Lay MR) (hS2 : x_S2 X) {A : Nat} (hA : A ≤ 8) (hAr : MI 1 6 = nI A) (hI : shI MI ML A) {x : Int32} : Ct X yX10_lacking cX10_lacking 3 (some .int) 12 0 0 [.ref 0, .int x] n SH MI ML MR n SH (shQ MI ML MR A x True (fdAns 15 x)) := by
  refine Ct_of (by decide) (Nat.le_of_ble_eq_true rfl) (fun G hG => ?_)
  refine r_aload_n 0 rfl dX10_lacking_0 ?_
  refine r_iload_n 1 rfl dX10_lacking_1 ?_
  refine r_Vf [.int _] dX10_lacking_2 lk_X10_172 mb_X10_functionTrouble in_X10_functionTrouble se_X10_functionTrouble rfl (c_X10_functionTrouble hM) rfl rfl rfl (Nat.le_of_ble_eq_true rfl) (rfl) ?_
  refine r_istore_n (ls2 := [(2, .int (funTr MI x)), (0, .ref 0), (1, .int x)]) dX10_lacking_5 (by decide) rfl ?_
  refine r_iload_n 0 rfl dX10_lacking_6 ?_
  refine r_ifne (tgt := 25) dX10_lacking_7 (by decide) (fun zh7 => ?_) (fun zh7 => ?_)
  · refine r_aload_n 1 rfl dX10_lacking_25 ?_
    refine r_iload_n 0 rfl dX10_lacking_26 ?_
    refine r_Vf [.int _] dX10_lacking_27 lk_X10_86 mb_X10_refuse in_X10_refuse se_X10_refuse rfl (c_X10_refuse) rfl rfl rfl (Nat.le_of_ble_eq_true rfl) (rfl) ?_
    exact r_iret hG dX10_lacking_30 (by first | exact sq_no hI (by unfold fdAns; rw [funTr_u, if_neg zh7]) (fun _ => zh7) | exact sq_yes hE (by unfold fdAns; rw [funTr_u, shE_funTr hE, if_pos zh7, nI_clamp (by omega), u2_row _ _ (by omega)]) (fun _ _ => by rw [nI_clamp (by omega)]; exact h4))
  · obtain ⟨⟨f, hf, rfl⟩, hmt⟩ := funTr_ex zh7
    refine r_aload_n 1 rfl dX10_lacking_10 ?_
    refine r_aload_n 1 rfl dX10_lacking_11 ?_
    refine r_iload_n 2 rfl dX10_lacking_12 ?_
    refine r_Vg [.int _] dX10_lacking_13 lk_X10_194 mb_X10_sheetOf in_X10_sheetOf se_X10_sheetOf rfl (c_X10_sheetOf hM hS2 hA hAr hI hf) rfl rfl rfl (Nat.le_of_ble_eq_true rfl) (rfl) (fun r W B C hz => ?_)
    obtain ⟨rfl, rfl, hE, h0, h4, hs⟩ := hz
    show RW X G _ _ _ _ _ _ _ _ _ _ _ _ _ [.ref (89 + 7 * f), .ref 0]
    refine r_geti dX10_lacking_16 fl_X10_226 (shOf hM hf).1 ?_
    refine r_Vf [.int _] dX10_lacking_19 lk_X10_115 mb_X10_told in_X10_told se_X10_told rfl (c_X10_told) rfl rfl rfl (Nat.le_of_ble_eq_true rfl) (rfl) ?_
    refine r_goto (tgt := 30) dX10_lacking_22 (by decide) ?_
    exact r_iret hG dX10_lacking_30 (by first | exact sq_no hI (by unfold fdAns; rw [funTr_u, if_neg zh7]) (fun _ => zh7) | exact sq_yes hE (by unfold fdAns; rw [funTr_u, shE_funTr hE, if_pos zh7, nI_clamp (by omega), u2_row _ _ (by omega)]) (fun _ _ => by rw [nI_clamp (by omega)]; exact h4))
set_option maxRecDepth 100000 in
theorem c_X10_fewest (hM : x_Lay MR) (hS2 : x_S2 X) {A : Nat} (hA : A ≤ 8) (hAr : MI 1 6 = nI A) (hI : shI MI ML A) {x : Int32} : Ct X yX10_fewest cX10_fewest 3 (some .int) 12 0 0 [.ref 0, .int x] n SH MI ML MR n SH (shQ MI ML MR A x True (fdAns 13 x)) := by
  refine Ct_of (by decide) (Nat.le_of_ble_eq_true rfl) (fun G hG => ?_)
  refine r_aload_n 0 rfl dX10_fewest_0 ?_
  refine r_iload_n 1 rfl dX10_fewest_1 ?_
  refine r_Vf [.int _] dX10_fewest_2 lk_X10_172 mb_X10_functionTrouble in_X10_functionTrouble se_X10_functionTrouble rfl (c_X10_functionTrouble hM) rfl rfl rfl (Nat.le_of_ble_eq_true rfl) (rfl) ?_
  refine r_istore_n (ls2 := [(2, .int (funTr MI x)), (0, .ref 0), (1, .int x)]) dX10_fewest_5 (by decide) rfl ?_
  refine r_iload_n 0 rfl dX10_fewest_6 ?_
  refine r_ifne (tgt := 25) dX10_fewest_7 (by decide) (fun zh7 => ?_) (fun zh7 => ?_)
  · refine r_aload_n 1 rfl dX10_fewest_25 ?_
    refine r_iload_n 0 rfl dX10_fewest_26 ?_
    refine r_Vf [.int _] dX10_fewest_27 lk_X10_86 mb_X10_refuse in_X10_refuse se_X10_refuse rfl (c_X10_refuse) rfl rfl rfl (Nat.le_of_ble_eq_true rfl) (rfl) ?_
    exact r_iret hG dX10_fewest_30 (by first | exact sq_no hI (by unfold fdAns; rw [funTr_u, if_neg zh7]) (fun _ => zh7) | exact sq_yes hE (by unfold fdAns; rw [funTr_u, shE_funTr hE, if_pos zh7, nI_clamp (by omega), u2_row _ _ (by omega)]) (fun _ _ => by rw [nI_clamp (by omega)]; exact h4))
  · obtain ⟨⟨f, hf, rfl⟩, hmt⟩ := funTr_ex zh7
    refine r_aload_n 1 rfl dX10_fewest_10 ?_
    refine r_aload_n 1 rfl dX10_fewest_11 ?_
    refine r_iload_n 2 rfl dX10_fewest_12 ?_
    refine r_Vg [.int _] dX10_fewest_13 lk_X10_194 mb_X10_sheetOf in_X10_sheetOf se_X10_sheetOf rfl (c_X10_sheetOf hM hS2 hA hAr hI hf) rfl rfl rfl (Nat.le_of_ble_eq_true rfl) (rfl) (fun r W B C hz => ?_)
    obtain ⟨rfl, rfl, hE, h0, h4, hs⟩ := hz
    show RW X G _ _ _ _ _ _ _ _ _ _ _ _ _ [.ref (89 + 7 * f), .ref 0]
    refine r_geti dX10_fewest_16 fl_X10_229 (shOf hM hf).1 ?_
    refine r_Vf [.int _] dX10_fewest_19 lk_X10_115 mb_X10_told in_X10_told se_X10_told rfl (c_X10_told) rfl rfl rfl (Nat.le_of_ble_eq_true rfl) (rfl) ?_
    refine r_goto (tgt := 30) dX10_fewest_22 (by decide) ?_
    exact r_iret hG dX10_fewest_30 (by first | exact sq_no hI (by unfold fdAns; rw [funTr_u, if_neg zh7]) (fun _ => zh7) | exact sq_yes hE (by unfold fdAns; rw [funTr_u, shE_funTr hE, if_pos zh7, nI_clamp (by omega), u2_row _ _ (by omega)]) (fun _ _ => by rw [nI_clamp (by omega)]; exact h4))
set_option maxRecDepth 100000 in
theorem c_X10_literals (hM : x_Lay MR) (hS2 : x_S2 X) {A : Nat} (hA : A ≤ 8) (hAr : MI 1 6 = nI A) (hI : shI MI ML A) {x : Int32} : Ct X yX10_literals cX10_literals 3 (some .int) 13 0 0 [.ref 0, .int x] n SH MI ML MR n SH (shQ MI ML MR A x True (fgAns 16 x)) := by
  refine Ct_of (by decide) (Nat.le_of_ble_eq_true rfl) (fun G hG => ?_)
  refine r_aload_n 0 rfl dX10_literals_0 ?_
  refine r_iload_n 1 rfl dX10_literals_1 ?_
  refine r_Vg [.int _] dX10_literals_2 lk_X10_232 mb_X10_fewestTrouble in_X10_fewestTrouble se_X10_fewestTrouble rfl (c_X10_fewestTrouble hM hS2 hA hAr hI) rfl rfl rfl (Nat.le_of_ble_eq_true rfl) (rfl) (fun r W B C hz => ?_)
  obtain ⟨rfl, hE, h0, rfl, h4⟩ := hz
  show RW X G _ _ _ _ _ _ _ _ _ _ _ _ _ [.int (fewTr W x)]
  refine r_istore_n (ls2 := [(2, .int (fewTr W x)), (0, .ref 0), (1, .int x)]) dX10_literals_5 (by decide) rfl ?_
  refine r_iload_n 0 rfl dX10_literals_6 ?_
  refine r_ifne (tgt := 25) dX10_literals_7 (by decide) (fun zh7 => ?_) (fun zh7 => ?_)
  · refine r_aload_n 1 rfl dX10_literals_25 ?_
    refine r_iload_n 0 rfl dX10_literals_26 ?_
    refine r_Vf [.int _] dX10_literals_27 lk_X10_86 mb_X10_refuse in_X10_refuse se_X10_refuse rfl (c_X10_refuse) rfl rfl rfl (Nat.le_of_ble_eq_true rfl) (rfl) ?_
    exact r_iret hG dX10_literals_30 (by first | exact sq_yes hE (by unfold fgAns; rw [fewTr_u, if_neg zh7]) (fun _ => h4) | exact sq_yes hE (by unfold fgAns; rw [fewTr_u, if_pos zh7, nI_clamp (by omega), u2_row _ _ (by omega)]) (fun _ q => by rw [nI_clamp (by omega)]; exact h4 q))
  · obtain ⟨⟨f, hf, rfl⟩, hmt⟩ := fewTr_ex zh7
    rw [nI_clamp (by omega)] at h4
    refine r_aload_n 1 rfl dX10_literals_10 ?_
    refine r_aload_n 1 rfl dX10_literals_11 ?_
    refine r_iload_n 2 rfl dX10_literals_12 ?_
    refine r_Vg [.int _] dX10_literals_13 lk_X10_194 mb_X10_sheetOf in_X10_sheetOf se_X10_sheetOf rfl (c_X10_sheetOf hM hS2 hA (shE_A hE hAr) hE.2.2.2.2.2.1 hf) rfl rfl rfl (Nat.le_of_ble_eq_true rfl) (rfl) (fun r W2 B2 C hz => ?_)
    obtain ⟨rfl, rfl, -, -, -, hs⟩ := hz
    obtain ⟨rfl, rfl⟩ := hs (h4 (fewTr_f zh7))
    show RW X G _ _ _ _ _ _ _ _ _ _ _ _ _ [.ref (89 + 7 * f), .ref 0]
    refine r_geti dX10_literals_16 fl_X10_238 (shOf hM hf).1 ?_
    refine r_Vf [.int _] dX10_literals_19 lk_X10_115 mb_X10_told in_X10_told se_X10_told rfl (c_X10_told) rfl rfl rfl (Nat.le_of_ble_eq_true rfl) (rfl) ?_
    refine r_goto (tgt := 30) dX10_literals_22 (by decide) ?_
    exact r_iret hG dX10_literals_30 (by first | exact sq_yes hE (by unfold fgAns; rw [fewTr_u, if_neg zh7]) (fun _ => h4) | exact sq_yes hE (by unfold fgAns; rw [fewTr_u, if_pos zh7, nI_clamp (by omega), u2_row _ _ (by omega)]) (fun _ q => by rw [nI_clamp (by omega)]; exact h4 q))
set_option maxRecDepth 100000 in
theorem c_X10_formula (hM : x_Lay MR) (hS2 : x_S2 X) {A : Nat} (hA : A ≤ 8) (hAr : MI 1 6 = nI A) (hI : shI MI ML A) {x : Int32} : Ct X yX10_formula cX10_formula 3 (some .int) 13 0 0 [.ref 0, .int x] n SH MI ML MR n SH (shQ MI ML MR A x True (fgAns 18 x)) := by
  refine Ct_of (by decide) (Nat.le_of_ble_eq_true rfl) (fun G hG => ?_)
  refine r_aload_n 0 rfl dX10_formula_0 ?_
  refine r_iload_n 1 rfl dX10_formula_1 ?_
  refine r_Vg [.int _] dX10_formula_2 lk_X10_232 mb_X10_fewestTrouble in_X10_fewestTrouble se_X10_fewestTrouble rfl (c_X10_fewestTrouble hM hS2 hA hAr hI) rfl rfl rfl (Nat.le_of_ble_eq_true rfl) (rfl) (fun r W B C hz => ?_)
  obtain ⟨rfl, hE, h0, rfl, h4⟩ := hz
  show RW X G _ _ _ _ _ _ _ _ _ _ _ _ _ [.int (fewTr W x)]
  refine r_istore_n (ls2 := [(2, .int (fewTr W x)), (0, .ref 0), (1, .int x)]) dX10_formula_5 (by decide) rfl ?_
  refine r_iload_n 0 rfl dX10_formula_6 ?_
  refine r_ifne (tgt := 25) dX10_formula_7 (by decide) (fun zh7 => ?_) (fun zh7 => ?_)
  · refine r_aload_n 1 rfl dX10_formula_25 ?_
    refine r_iload_n 0 rfl dX10_formula_26 ?_
    refine r_Vf [.int _] dX10_formula_27 lk_X10_86 mb_X10_refuse in_X10_refuse se_X10_refuse rfl (c_X10_refuse) rfl rfl rfl (Nat.le_of_ble_eq_true rfl) (rfl) ?_
    exact r_iret hG dX10_formula_30 (by first | exact sq_yes hE (by unfold fgAns; rw [fewTr_u, if_neg zh7]) (fun _ => h4) | exact sq_yes hE (by unfold fgAns; rw [fewTr_u, if_pos zh7, nI_clamp (by omega), u2_row _ _ (by omega)]) (fun _ q => by rw [nI_clamp (by omega)]; exact h4 q))
  · obtain ⟨⟨f, hf, rfl⟩, hmt⟩ := fewTr_ex zh7
    rw [nI_clamp (by omega)] at h4
    refine r_aload_n 1 rfl dX10_formula_10 ?_
    refine r_aload_n 1 rfl dX10_formula_11 ?_
    refine r_iload_n 2 rfl dX10_formula_12 ?_
    refine r_Vg [.int _] dX10_formula_13 lk_X10_194 mb_X10_sheetOf in_X10_sheetOf se_X10_sheetOf rfl (c_X10_sheetOf hM hS2 hA (shE_A hE hAr) hE.2.2.2.2.2.1 hf) rfl rfl rfl (Nat.le_of_ble_eq_true rfl) (rfl) (fun r W2 B2 C hz => ?_)
    obtain ⟨rfl, rfl, -, -, -, hs⟩ := hz
    obtain ⟨rfl, rfl⟩ := hs (h4 (fewTr_f zh7))
    show RW X G _ _ _ _ _ _ _ _ _ _ _ _ _ [.ref (89 + 7 * f), .ref 0]
    refine r_geti dX10_formula_16 fl_X10_241 (shOf hM hf).1 ?_
    refine r_Vf [.int _] dX10_formula_19 lk_X10_115 mb_X10_told in_X10_told se_X10_told rfl (c_X10_told) rfl rfl rfl (Nat.le_of_ble_eq_true rfl) (rfl) ?_
    refine r_goto (tgt := 30) dX10_formula_22 (by decide) ?_
    exact r_iret hG dX10_formula_30 (by first | exact sq_yes hE (by unfold fgAns; rw [fewTr_u, if_neg zh7]) (fun _ => h4) | exact sq_yes hE (by unfold fgAns; rw [fewTr_u, if_pos zh7, nI_clamp (by omega), u2_row _ _ (by omega)]) (fun _ q => by rw [nI_clamp (by omega)]; exact h4 q))
set_option maxRecDepth 100000 in
theorem c_X10_requiredCube (hM : x_Lay MR) (hS2 : x_S2 X) {A : Nat} (hA : A ≤ 8) (hAr : MI 1 6 = nI A) (hI : shI MI ML A) {x y : Int32} : Ct X yX10_requiredCube cX10_requiredCube 4 (some .int) 12 0 0 [.ref 0, .int x, .int y] n SH MI ML MR n SH (shQ MI ML MR A x (¬ y < 0) (ixAns 6 1 33 x y)) := by
  refine Ct_of (by decide) (Nat.le_of_ble_eq_true rfl) (fun G hG => ?_)
  by_cases hx : funTr MI x = 0
  · obtain ⟨⟨f, hf, rfl⟩, hmt⟩ := funTr_ex hx
    have hsh := shOf hM hf
    obtain ⟨-, -, -, -, m5, m7, m8, m10, m12, m17, s1, s2, s3, s4, s5, s6, -⟩ := hsh
    refine r_aload_n 0 rfl dX10_requiredCube_0 ?_
    refine r_iload_n 1 rfl dX10_requiredCube_1 ?_
    refine r_Vf [.int _] dX10_requiredCube_2 lk_X10_172 mb_X10_functionTrouble in_X10_functionTrouble se_X10_functionTrouble rfl (c_X10_functionTrouble hM) rfl rfl rfl (Nat.le_of_ble_eq_true rfl) (rfl) ?_
    refine r_istore_n (ls2 := [(3, .int (funTr MI (nI f))), (0, .ref 0), (1, .int (nI f)), (2, .int y)]) dX10_requiredCube_5 (by decide) rfl ?_
    refine r_iload_n 0 rfl dX10_requiredCube_6 ?_
    refine r_ifne (tgt := 28) dX10_requiredCube_7 (by decide) (fun zh7 => ?_) (fun zh7 => ?_)
    · exact absurd zh7 (fun q => q hx)
    refine r_iload_n 3 rfl dX10_requiredCube_10 ?_
    refine r_iflt (tgt := 26) dX10_requiredCube_11 (by decide) (fun zh11 => ?_) (fun zh11 => ?_)
    · refine r_iconst (v := 1) rfl dX10_requiredCube_26 ?_
      refine r_istore_n (ls2 := [(3, .int 1), (0, .ref 0), (1, .int (nI f)), (2, .int y)]) dX10_requiredCube_27 (by decide) rfl ?_
      refine r_iload_n 0 rfl dX10_requiredCube_28 ?_
      refine r_ifne (tgt := 51) dX10_requiredCube_29 (by decide) (fun zh29 => ?_) (fun zh29 => ?_)
      rotate_left
      · exact absurd zh29 (by decide)
      refine r_aload_n 1 rfl dX10_requiredCube_51 ?_
      refine r_iload_n 0 rfl dX10_requiredCube_52 ?_
      refine r_Vf [.int _] dX10_requiredCube_53 lk_X10_86 mb_X10_refuse in_X10_refuse se_X10_refuse rfl (c_X10_refuse) rfl rfl rfl (Nat.le_of_ble_eq_true rfl) (rfl) ?_
      exact r_iret hG dX10_requiredCube_56 (by first | exact sq_no hI (by unfold ixAns; rw [funTr_u, if_pos hx, if_neg (fun z => (inR_t.mp z).1 zh11)]) (fun z => absurd zh11 z) | exact sq_yes hE (by unfold ixAns; rw [funTr_u, shE_funTr hE, if_pos hx, nI_clamp (by omega), u2_row _ _ (by omega), if_neg (fun z => (inR_t.mp z).2 (Int32.not_lt.mp zh23))]) (fun _ _ => by rw [nI_clamp (by omega)]; exact h4) | exact sq_yes hE (by unfold ixAns; rw [funTr_u, shE_funTr hE, if_pos hx, nI_clamp (by omega), u2_row _ _ (by omega), u2_row _ _ (by omega), if_pos (inR_t.mpr ⟨zh11, Int32.not_le.mpr zh23⟩)]) (fun _ _ => by rw [nI_clamp (by omega)]; exact h4))
    · refine r_iload_n 3 rfl dX10_requiredCube_14 ?_
      refine r_aload_n 1 rfl dX10_requiredCube_15 ?_
      refine r_iload_n 2 rfl dX10_requiredCube_16 ?_
      refine r_Vg [.int _] dX10_requiredCube_17 lk_X10_194 mb_X10_sheetOf in_X10_sheetOf se_X10_sheetOf rfl (c_X10_sheetOf hM hS2 hA hAr hI hf) rfl rfl rfl (Nat.le_of_ble_eq_true rfl) (rfl) (fun r W B C hz => ?_)
      obtain ⟨rfl, rfl, hE, h0, h4, hs⟩ := hz
      show RW X G _ _ _ _ _ _ _ _ _ _ _ _ _ [.ref (89 + 7 * f), .int y]
      refine r_geti dX10_requiredCube_20 fl_X10_198 (shOf hM hf).1 ?_
      refine r_icmplt (tgt := 28) dX10_requiredCube_23 (by decide) (fun zh23 => ?_) (fun zh23 => ?_)
      · refine r_iload_n 0 rfl dX10_requiredCube_28 ?_
        refine r_ifne (tgt := 51) dX10_requiredCube_29 (by decide) (fun zh29 => ?_) (fun zh29 => ?_)
        · exact absurd zh29 (fun q => q hx)
        refine r_aload_n 1 rfl dX10_requiredCube_32 ?_
        refine r_aload_n 1 rfl dX10_requiredCube_33 ?_
        refine r_iload_n 2 rfl dX10_requiredCube_34 ?_
        refine r_Vg [.int _] dX10_requiredCube_35 lk_X10_194 mb_X10_sheetOf in_X10_sheetOf se_X10_sheetOf rfl (c_X10_sheetOf hM hS2 hA (shE_A hE hAr) hE.2.2.2.2.2.1 hf) rfl rfl rfl (Nat.le_of_ble_eq_true rfl) (rfl) (fun r W2 B2 C hz => ?_)
        obtain ⟨rfl, rfl, -, -, -, hs2⟩ := hz
        obtain ⟨rfl, rfl⟩ := hs2 h4
        show RW X G _ _ _ _ _ _ _ _ _ _ _ _ _ [.ref (89 + 7 * f), .ref 0]
        refine r_getr dX10_requiredCube_38 fl_X10_201 (shOf hM hf).1 m5 ?_
        refine r_iload_n 3 rfl dX10_requiredCube_41 ?_
        refine r_Sf [.ref _, .int _] dX10_requiredCube_42 lk_X10_140 mb_X10_pick sc_X10_pick rfl (c_X10_pick (N := 33) s1 (by decide)) rfl (Nat.le_of_ble_eq_true rfl) (rfl) ?_
        refine r_Vf [.int _] dX10_requiredCube_45 lk_X10_115 mb_X10_told in_X10_told se_X10_told rfl (c_X10_told) rfl rfl rfl (Nat.le_of_ble_eq_true rfl) (rfl) ?_
        refine r_goto (tgt := 56) dX10_requiredCube_48 (by decide) ?_
        exact r_iret hG dX10_requiredCube_56 (by first | exact sq_no hI (by unfold ixAns; rw [funTr_u, if_pos hx, if_neg (fun z => (inR_t.mp z).1 zh11)]) (fun z => absurd zh11 z) | exact sq_yes hE (by unfold ixAns; rw [funTr_u, shE_funTr hE, if_pos hx, nI_clamp (by omega), u2_row _ _ (by omega), if_neg (fun z => (inR_t.mp z).2 (Int32.not_lt.mp zh23))]) (fun _ _ => by rw [nI_clamp (by omega)]; exact h4) | exact sq_yes hE (by unfold ixAns; rw [funTr_u, shE_funTr hE, if_pos hx, nI_clamp (by omega), u2_row _ _ (by omega), u2_row _ _ (by omega), if_pos (inR_t.mpr ⟨zh11, Int32.not_le.mpr zh23⟩)]) (fun _ _ => by rw [nI_clamp (by omega)]; exact h4))
      · refine r_iconst (v := 1) rfl dX10_requiredCube_26 ?_
        refine r_istore_n (ls2 := [(3, .int 1), (0, .ref 0), (1, .int (nI f)), (2, .int y)]) dX10_requiredCube_27 (by decide) rfl ?_
        refine r_iload_n 0 rfl dX10_requiredCube_28 ?_
        refine r_ifne (tgt := 51) dX10_requiredCube_29 (by decide) (fun zh29 => ?_) (fun zh29 => ?_)
        rotate_left
        · exact absurd zh29 (by decide)
        refine r_aload_n 1 rfl dX10_requiredCube_51 ?_
        refine r_iload_n 0 rfl dX10_requiredCube_52 ?_
        refine r_Vf [.int _] dX10_requiredCube_53 lk_X10_86 mb_X10_refuse in_X10_refuse se_X10_refuse rfl (c_X10_refuse) rfl rfl rfl (Nat.le_of_ble_eq_true rfl) (rfl) ?_
        exact r_iret hG dX10_requiredCube_56 (by first | exact sq_no hI (by unfold ixAns; rw [funTr_u, if_pos hx, if_neg (fun z => (inR_t.mp z).1 zh11)]) (fun z => absurd zh11 z) | exact sq_yes hE (by unfold ixAns; rw [funTr_u, shE_funTr hE, if_pos hx, nI_clamp (by omega), u2_row _ _ (by omega), if_neg (fun z => (inR_t.mp z).2 (Int32.not_lt.mp zh23))]) (fun _ _ => by rw [nI_clamp (by omega)]; exact h4) | exact sq_yes hE (by unfold ixAns; rw [funTr_u, shE_funTr hE, if_pos hx, nI_clamp (by omega), u2_row _ _ (by omega), u2_row _ _ (by omega), if_pos (inR_t.mpr ⟨zh11, Int32.not_le.mpr zh23⟩)]) (fun _ _ => by rw [nI_clamp (by omega)]; exact h4))
  ·
    refine r_aload_n 0 rfl dX10_requiredCube_0 ?_
    refine r_iload_n 1 rfl dX10_requiredCube_1 ?_
    refine r_Vf [.int _] dX10_requiredCube_2 lk_X10_172 mb_X10_functionTrouble in_X10_functionTrouble se_X10_functionTrouble rfl (c_X10_functionTrouble hM) rfl rfl rfl (Nat.le_of_ble_eq_true rfl) (rfl) ?_
    refine r_istore_n (ls2 := [(3, .int (funTr MI x)), (0, .ref 0), (1, .int x), (2, .int y)]) dX10_requiredCube_5 (by decide) rfl ?_
    refine r_iload_n 0 rfl dX10_requiredCube_6 ?_
    refine r_ifne (tgt := 28) dX10_requiredCube_7 (by decide) (fun zh7 => ?_) (fun zh7 => ?_)
    rotate_left
    · exact absurd zh7 (fun q => hx q)
    refine r_iload_n 0 rfl dX10_requiredCube_28 ?_
    refine r_ifne (tgt := 51) dX10_requiredCube_29 (by decide) (fun zh29 => ?_) (fun zh29 => ?_)
    rotate_left
    · exact absurd zh29 (fun q => hx q)
    refine r_aload_n 1 rfl dX10_requiredCube_51 ?_
    refine r_iload_n 0 rfl dX10_requiredCube_52 ?_
    refine r_Vf [.int _] dX10_requiredCube_53 lk_X10_86 mb_X10_refuse in_X10_refuse se_X10_refuse rfl (c_X10_refuse) rfl rfl rfl (Nat.le_of_ble_eq_true rfl) (rfl) ?_
    exact r_iret hG dX10_requiredCube_56 (sq_no hI (by unfold ixAns; rw [funTr_u, if_neg hx]) (fun _ => hx))
set_option maxRecDepth 100000 in
theorem c_X10_prime (hM : x_Lay MR) (hS2 : x_S2 X) {A : Nat} (hA : A ≤ 8) (hAr : MI 1 6 = nI A) (hI : shI MI ML A) {x y : Int32} : Ct X yX10_prime cX10_prime 4 (some .int) 12 0 0 [.ref 0, .int x, .int y] n SH MI ML MR n SH (shQ MI ML MR A x (¬ y < 0) (ixAns 11 4 240 x y)) := by
  refine Ct_of (by decide) (Nat.le_of_ble_eq_true rfl) (fun G hG => ?_)
  by_cases hx : funTr MI x = 0
  · obtain ⟨⟨f, hf, rfl⟩, hmt⟩ := funTr_ex hx
    have hsh := shOf hM hf
    obtain ⟨-, -, -, -, m5, m7, m8, m10, m12, m17, s1, s2, s3, s4, s5, s6, -⟩ := hsh
    refine r_aload_n 0 rfl dX10_prime_0 ?_
    refine r_iload_n 1 rfl dX10_prime_1 ?_
    refine r_Vf [.int _] dX10_prime_2 lk_X10_172 mb_X10_functionTrouble in_X10_functionTrouble se_X10_functionTrouble rfl (c_X10_functionTrouble hM) rfl rfl rfl (Nat.le_of_ble_eq_true rfl) (rfl) ?_
    refine r_istore_n (ls2 := [(3, .int (funTr MI (nI f))), (0, .ref 0), (1, .int (nI f)), (2, .int y)]) dX10_prime_5 (by decide) rfl ?_
    refine r_iload_n 0 rfl dX10_prime_6 ?_
    refine r_ifne (tgt := 28) dX10_prime_7 (by decide) (fun zh7 => ?_) (fun zh7 => ?_)
    · exact absurd zh7 (fun q => q hx)
    refine r_iload_n 3 rfl dX10_prime_10 ?_
    refine r_iflt (tgt := 26) dX10_prime_11 (by decide) (fun zh11 => ?_) (fun zh11 => ?_)
    · refine r_iconst (v := 1) rfl dX10_prime_26 ?_
      refine r_istore_n (ls2 := [(3, .int 1), (0, .ref 0), (1, .int (nI f)), (2, .int y)]) dX10_prime_27 (by decide) rfl ?_
      refine r_iload_n 0 rfl dX10_prime_28 ?_
      refine r_ifne (tgt := 51) dX10_prime_29 (by decide) (fun zh29 => ?_) (fun zh29 => ?_)
      rotate_left
      · exact absurd zh29 (by decide)
      refine r_aload_n 1 rfl dX10_prime_51 ?_
      refine r_iload_n 0 rfl dX10_prime_52 ?_
      refine r_Vf [.int _] dX10_prime_53 lk_X10_86 mb_X10_refuse in_X10_refuse se_X10_refuse rfl (c_X10_refuse) rfl rfl rfl (Nat.le_of_ble_eq_true rfl) (rfl) ?_
      exact r_iret hG dX10_prime_56 (by first | exact sq_no hI (by unfold ixAns; rw [funTr_u, if_pos hx, if_neg (fun z => (inR_t.mp z).1 zh11)]) (fun z => absurd zh11 z) | exact sq_yes hE (by unfold ixAns; rw [funTr_u, shE_funTr hE, if_pos hx, nI_clamp (by omega), u2_row _ _ (by omega), if_neg (fun z => (inR_t.mp z).2 (Int32.not_lt.mp zh23))]) (fun _ _ => by rw [nI_clamp (by omega)]; exact h4) | exact sq_yes hE (by unfold ixAns; rw [funTr_u, shE_funTr hE, if_pos hx, nI_clamp (by omega), u2_row _ _ (by omega), u2_row _ _ (by omega), if_pos (inR_t.mpr ⟨zh11, Int32.not_le.mpr zh23⟩)]) (fun _ _ => by rw [nI_clamp (by omega)]; exact h4))
    · refine r_iload_n 3 rfl dX10_prime_14 ?_
      refine r_aload_n 1 rfl dX10_prime_15 ?_
      refine r_iload_n 2 rfl dX10_prime_16 ?_
      refine r_Vg [.int _] dX10_prime_17 lk_X10_194 mb_X10_sheetOf in_X10_sheetOf se_X10_sheetOf rfl (c_X10_sheetOf hM hS2 hA hAr hI hf) rfl rfl rfl (Nat.le_of_ble_eq_true rfl) (rfl) (fun r W B C hz => ?_)
      obtain ⟨rfl, rfl, hE, h0, h4, hs⟩ := hz
      show RW X G _ _ _ _ _ _ _ _ _ _ _ _ _ [.ref (89 + 7 * f), .int y]
      refine r_geti dX10_prime_20 fl_X10_217 (shOf hM hf).1 ?_
      refine r_icmplt (tgt := 28) dX10_prime_23 (by decide) (fun zh23 => ?_) (fun zh23 => ?_)
      · refine r_iload_n 0 rfl dX10_prime_28 ?_
        refine r_ifne (tgt := 51) dX10_prime_29 (by decide) (fun zh29 => ?_) (fun zh29 => ?_)
        · exact absurd zh29 (fun q => q hx)
        refine r_aload_n 1 rfl dX10_prime_32 ?_
        refine r_aload_n 1 rfl dX10_prime_33 ?_
        refine r_iload_n 2 rfl dX10_prime_34 ?_
        refine r_Vg [.int _] dX10_prime_35 lk_X10_194 mb_X10_sheetOf in_X10_sheetOf se_X10_sheetOf rfl (c_X10_sheetOf hM hS2 hA (shE_A hE hAr) hE.2.2.2.2.2.1 hf) rfl rfl rfl (Nat.le_of_ble_eq_true rfl) (rfl) (fun r W2 B2 C hz => ?_)
        obtain ⟨rfl, rfl, -, -, -, hs2⟩ := hz
        obtain ⟨rfl, rfl⟩ := hs2 h4
        show RW X G _ _ _ _ _ _ _ _ _ _ _ _ _ [.ref (89 + 7 * f), .ref 0]
        refine r_getr dX10_prime_38 fl_X10_220 (shOf hM hf).1 m10 ?_
        refine r_iload_n 3 rfl dX10_prime_41 ?_
        refine r_Sf [.ref _, .int _] dX10_prime_42 lk_X10_140 mb_X10_pick sc_X10_pick rfl (c_X10_pick (N := 240) s4 (by decide)) rfl (Nat.le_of_ble_eq_true rfl) (rfl) ?_
        refine r_Vf [.int _] dX10_prime_45 lk_X10_115 mb_X10_told in_X10_told se_X10_told rfl (c_X10_told) rfl rfl rfl (Nat.le_of_ble_eq_true rfl) (rfl) ?_
        refine r_goto (tgt := 56) dX10_prime_48 (by decide) ?_
        exact r_iret hG dX10_prime_56 (by first | exact sq_no hI (by unfold ixAns; rw [funTr_u, if_pos hx, if_neg (fun z => (inR_t.mp z).1 zh11)]) (fun z => absurd zh11 z) | exact sq_yes hE (by unfold ixAns; rw [funTr_u, shE_funTr hE, if_pos hx, nI_clamp (by omega), u2_row _ _ (by omega), if_neg (fun z => (inR_t.mp z).2 (Int32.not_lt.mp zh23))]) (fun _ _ => by rw [nI_clamp (by omega)]; exact h4) | exact sq_yes hE (by unfold ixAns; rw [funTr_u, shE_funTr hE, if_pos hx, nI_clamp (by omega), u2_row _ _ (by omega), u2_row _ _ (by omega), if_pos (inR_t.mpr ⟨zh11, Int32.not_le.mpr zh23⟩)]) (fun _ _ => by rw [nI_clamp (by omega)]; exact h4))
      · refine r_iconst (v := 1) rfl dX10_prime_26 ?_
        refine r_istore_n (ls2 := [(3, .int 1), (0, .ref 0), (1, .int (nI f)), (2, .int y)]) dX10_prime_27 (by decide) rfl ?_
        refine r_iload_n 0 rfl dX10_prime_28 ?_
        refine r_ifne (tgt := 51) dX10_prime_29 (by decide) (fun zh29 => ?_) (fun zh29 => ?_)
        rotate_left
        · exact absurd zh29 (by decide)
        refine r_aload_n 1 rfl dX10_prime_51 ?_
        refine r_iload_n 0 rfl dX10_prime_52 ?_
        refine r_Vf [.int _] dX10_prime_53 lk_X10_86 mb_X10_refuse in_X10_refuse se_X10_refuse rfl (c_X10_refuse) rfl rfl rfl (Nat.le_of_ble_eq_true rfl) (rfl) ?_
        exact r_iret hG dX10_prime_56 (by first | exact sq_no hI (by unfold ixAns; rw [funTr_u, if_pos hx, if_neg (fun z => (inR_t.mp z).1 zh11)]) (fun z => absurd zh11 z) | exact sq_yes hE (by unfold ixAns; rw [funTr_u, shE_funTr hE, if_pos hx, nI_clamp (by omega), u2_row _ _ (by omega), if_neg (fun z => (inR_t.mp z).2 (Int32.not_lt.mp zh23))]) (fun _ _ => by rw [nI_clamp (by omega)]; exact h4) | exact sq_yes hE (by unfold ixAns; rw [funTr_u, shE_funTr hE, if_pos hx, nI_clamp (by omega), u2_row _ _ (by omega), u2_row _ _ (by omega), if_pos (inR_t.mpr ⟨zh11, Int32.not_le.mpr zh23⟩)]) (fun _ _ => by rw [nI_clamp (by omega)]; exact h4))
  ·
    refine r_aload_n 0 rfl dX10_prime_0 ?_
    refine r_iload_n 1 rfl dX10_prime_1 ?_
    refine r_Vf [.int _] dX10_prime_2 lk_X10_172 mb_X10_functionTrouble in_X10_functionTrouble se_X10_functionTrouble rfl (c_X10_functionTrouble hM) rfl rfl rfl (Nat.le_of_ble_eq_true rfl) (rfl) ?_
    refine r_istore_n (ls2 := [(3, .int (funTr MI x)), (0, .ref 0), (1, .int x), (2, .int y)]) dX10_prime_5 (by decide) rfl ?_
    refine r_iload_n 0 rfl dX10_prime_6 ?_
    refine r_ifne (tgt := 28) dX10_prime_7 (by decide) (fun zh7 => ?_) (fun zh7 => ?_)
    rotate_left
    · exact absurd zh7 (fun q => hx q)
    refine r_iload_n 0 rfl dX10_prime_28 ?_
    refine r_ifne (tgt := 51) dX10_prime_29 (by decide) (fun zh29 => ?_) (fun zh29 => ?_)
    rotate_left
    · exact absurd zh29 (fun q => hx q)
    refine r_aload_n 1 rfl dX10_prime_51 ?_
    refine r_iload_n 0 rfl dX10_prime_52 ?_
    refine r_Vf [.int _] dX10_prime_53 lk_X10_86 mb_X10_refuse in_X10_refuse se_X10_refuse rfl (c_X10_refuse) rfl rfl rfl (Nat.le_of_ble_eq_true rfl) (rfl) ?_
    exact r_iret hG dX10_prime_56 (sq_no hI (by unfold ixAns; rw [funTr_u, if_neg hx]) (fun _ => hx))
set_option maxRecDepth 100000 in
theorem c_X10_chosen (hM : x_Lay MR) (hS2 : x_S2 X) {A : Nat} (hA : A ≤ 8) (hAr : MI 1 6 = nI A) (hI : shI MI ML A) {x y : Int32} : Ct X yX10_chosen cX10_chosen 4 (some .int) 13 0 0 [.ref 0, .int x, .int y] n SH MI ML MR n SH (shQ MI ML MR A x True (igAns 13 5 5 x y)) := by
  refine Ct_of (by decide) (Nat.le_of_ble_eq_true rfl) (fun G hG => ?_)
  have j28 : ∀ W B t, shE MI ML A W B → (funTr W x = 0 → W (89 + 7 * x.toNatClampNeg) 4 = 1) → t = (if fewTr W x = 0 then (if inR y (W (89 + 7 * x.toNatClampNeg) 13) = true then 0 else 1) else fewTr W x) → RW X G RX10 cX10_chosen 4 (x_rm 13 0 0) n SH W B MR 0 0 28 [(3, .int t), (0, .ref 0), (1, .int x), (2, .int y)] [] := by
    intro W B t hE h4 ht
    by_cases h1 : fewTr W x = 0
    · obtain ⟨⟨f, hf, rfl⟩, hmt⟩ := fewTr_ex h1
      rw [nI_clamp (show f < 2 ^ 31 by omega)] at h4 ht
      obtain ⟨-, -, -, -, m5, m7, m8, m10, m12, m17, s1, s2, s3, s4, s5, s6, -⟩ := shOf hM hf
      by_cases h2 : inR y (W (89 + 7 * f) 13) = true
      · rw [if_pos h1, if_pos h2] at ht
        subst ht
        refine r_iload_n 0 rfl dX10_chosen_28 ?_
        refine r_ifne (tgt := 51) dX10_chosen_29 (by decide) (fun zh29 => ?_) (fun zh29 => ?_)
        · exact absurd zh29 (by decide)
        refine r_aload_n 1 rfl dX10_chosen_32 ?_
        refine r_aload_n 1 rfl dX10_chosen_33 ?_
        refine r_iload_n 2 rfl dX10_chosen_34 ?_
        refine r_Vg [.int _] dX10_chosen_35 lk_X10_194 mb_X10_sheetOf in_X10_sheetOf se_X10_sheetOf rfl (c_X10_sheetOf hM hS2 hA (shE_A hE hAr) hE.2.2.2.2.2.1 hf) rfl rfl rfl (Nat.le_of_ble_eq_true rfl) (rfl) (fun r W2 B2 C hz => ?_)
        obtain ⟨rfl, rfl, -, -, -, hs2⟩ := hz
        obtain ⟨rfl, rfl⟩ := hs2 (h4 (fewTr_f h1))
        show RW X G _ _ _ _ _ _ _ _ _ _ _ _ _ [.ref (89 + 7 * f), .ref 0]
        refine r_getr dX10_chosen_38 fl_X10_235 (shOf hM hf).1 m12 ?_
        refine r_iload_n 3 rfl dX10_chosen_41 ?_
        refine r_Sf [.ref _, .int _] dX10_chosen_42 lk_X10_140 mb_X10_pick sc_X10_pick rfl (c_X10_pick (N := 5) s5 (by decide)) rfl (Nat.le_of_ble_eq_true rfl) (rfl) ?_
        refine r_Vf [.int _] dX10_chosen_45 lk_X10_115 mb_X10_told in_X10_told se_X10_told rfl (c_X10_told) rfl rfl rfl (Nat.le_of_ble_eq_true rfl) (rfl) ?_
        refine r_goto (tgt := 56) dX10_chosen_48 (by decide) ?_
        exact r_iret hG dX10_chosen_56 (sq_yes hE (by unfold igAns; rw [fewTr_u, if_pos h1, nI_clamp (by omega), u2_row _ _ (by omega), u2_row _ _ (by omega), if_pos h2]) (fun _ q => by rw [nI_clamp (by omega)]; exact h4 q))
      · rw [if_pos h1, if_neg h2] at ht
        subst ht
        refine r_iload_n 0 rfl dX10_chosen_28 ?_
        refine r_ifne (tgt := 51) dX10_chosen_29 (by decide) (fun zh29 => ?_) (fun zh29 => ?_)
        rotate_left
        · exact absurd zh29 (by decide)
        refine r_aload_n 1 rfl dX10_chosen_51 ?_
        refine r_iload_n 0 rfl dX10_chosen_52 ?_
        refine r_Vf [.int _] dX10_chosen_53 lk_X10_86 mb_X10_refuse in_X10_refuse se_X10_refuse rfl (c_X10_refuse) rfl rfl rfl (Nat.le_of_ble_eq_true rfl) (rfl) ?_
        exact r_iret hG dX10_chosen_56 (sq_yes hE (by unfold igAns; rw [fewTr_u, if_pos h1, nI_clamp (by omega), u2_row _ _ (by omega), if_neg h2]) (fun _ q => by rw [nI_clamp (by omega)]; exact h4 q))
    · rw [if_neg h1] at ht
      refine r_iload_n 0 rfl dX10_chosen_28 ?_
      refine r_ifne (tgt := 51) dX10_chosen_29 (by decide) (fun zh29 => ?_) (fun zh29 => ?_)
      rotate_left
      · exact absurd zh29 (fun q => h1 (ht ▸ q))
      refine r_aload_n 1 rfl dX10_chosen_51 ?_
      refine r_iload_n 0 rfl dX10_chosen_52 ?_
      refine r_Vf [.int _] dX10_chosen_53 lk_X10_86 mb_X10_refuse in_X10_refuse se_X10_refuse rfl (c_X10_refuse) rfl rfl rfl (Nat.le_of_ble_eq_true rfl) (rfl) ?_
      exact r_iret hG dX10_chosen_56 (sq_yes hE (by unfold igAns; rw [fewTr_u, if_neg h1, ht]) (fun _ => h4))
  refine r_aload_n 0 rfl dX10_chosen_0 ?_
  refine r_iload_n 1 rfl dX10_chosen_1 ?_
  refine r_Vg [.int _] dX10_chosen_2 lk_X10_232 mb_X10_fewestTrouble in_X10_fewestTrouble se_X10_fewestTrouble rfl (c_X10_fewestTrouble hM hS2 hA hAr hI) rfl rfl rfl (Nat.le_of_ble_eq_true rfl) (rfl) (fun r W B C hz => ?_)
  obtain ⟨rfl, hE, h0, rfl, h4⟩ := hz
  show RW X G _ _ _ _ _ _ _ _ _ _ _ _ _ [.int (fewTr W x)]
  refine r_istore_n (ls2 := [(3, .int (fewTr W x)), (0, .ref 0), (1, .int x), (2, .int y)]) dX10_chosen_5 (by decide) rfl ?_
  refine r_iload_n 0 rfl dX10_chosen_6 ?_
  refine r_ifne (tgt := 28) dX10_chosen_7 (by decide) (fun zh7 => ?_) (fun zh7 => ?_)
  · first | exact j28 W B _ hE h4 (by rw [if_neg zh7]) | exact j28 W B _ hE h4 (by rw [if_pos zh7, if_neg (fun z => (inR_t.mp z).1 zh11)]) | exact j28 W B _ hE h4 (by rw [hcl, if_pos zh7, if_neg (fun z => (inR_t.mp z).2 (Int32.not_lt.mp zh23))]) | exact j28 W B _ hE h4 (by rw [hcl, if_pos zh7, if_pos (inR_t.mpr ⟨zh11, Int32.not_le.mpr zh23⟩)]; exact zh7)
  · refine r_iload_n 3 rfl dX10_chosen_10 ?_
    refine r_iflt (tgt := 26) dX10_chosen_11 (by decide) (fun zh11 => ?_) (fun zh11 => ?_)
    · refine r_iconst (v := 1) rfl dX10_chosen_26 ?_
      refine r_istore_n (ls2 := [(3, .int 1), (0, .ref 0), (1, .int x), (2, .int y)]) dX10_chosen_27 (by decide) rfl ?_
      first | exact j28 W B _ hE h4 (by rw [if_neg zh7]) | exact j28 W B _ hE h4 (by rw [if_pos zh7, if_neg (fun z => (inR_t.mp z).1 zh11)]) | exact j28 W B _ hE h4 (by rw [hcl, if_pos zh7, if_neg (fun z => (inR_t.mp z).2 (Int32.not_lt.mp zh23))]) | exact j28 W B _ hE h4 (by rw [hcl, if_pos zh7, if_pos (inR_t.mpr ⟨zh11, Int32.not_le.mpr zh23⟩)]; exact zh7)
    · refine r_iload_n 3 rfl dX10_chosen_14 ?_
      obtain ⟨f, hf, rfl⟩ := (fewTr_ex zh7).1
      have hcl : (nI f).toNatClampNeg = f := nI_clamp (by omega)
      refine r_aload_n 1 rfl dX10_chosen_15 ?_
      refine r_iload_n 2 rfl dX10_chosen_16 ?_
      refine r_Vg [.int _] dX10_chosen_17 lk_X10_194 mb_X10_sheetOf in_X10_sheetOf se_X10_sheetOf rfl (c_X10_sheetOf hM hS2 hA (shE_A hE hAr) hE.2.2.2.2.2.1 hf) rfl rfl rfl (Nat.le_of_ble_eq_true rfl) (rfl) (fun r W2 B2 C hz => ?_)
      obtain ⟨rfl, rfl, -, -, -, hs2⟩ := hz
      obtain ⟨e1, e2⟩ := hs2 (by rw [← hcl]; exact h4 (fewTr_f zh7))
      rw [e1, e2]
      show RW X G _ _ _ _ _ _ _ _ _ _ _ _ _ [.ref (89 + 7 * f), .int y]
      refine r_geti dX10_chosen_20 fl_X10_229 (shOf hM hf).1 ?_
      refine r_icmplt (tgt := 28) dX10_chosen_23 (by decide) (fun zh23 => ?_) (fun zh23 => ?_)
      · first | exact j28 W B _ hE h4 (by rw [if_neg zh7]) | exact j28 W B _ hE h4 (by rw [if_pos zh7, if_neg (fun z => (inR_t.mp z).1 zh11)]) | exact j28 W B _ hE h4 (by rw [hcl, if_pos zh7, if_neg (fun z => (inR_t.mp z).2 (Int32.not_lt.mp zh23))]) | exact j28 W B _ hE h4 (by rw [hcl, if_pos zh7, if_pos (inR_t.mpr ⟨zh11, Int32.not_le.mpr zh23⟩)]; exact zh7)
      · refine r_iconst (v := 1) rfl dX10_chosen_26 ?_
        refine r_istore_n (ls2 := [(3, .int 1), (0, .ref 0), (1, .int (nI f)), (2, .int y)]) dX10_chosen_27 (by decide) rfl ?_
        first | exact j28 W B _ hE h4 (by rw [if_neg zh7]) | exact j28 W B _ hE h4 (by rw [if_pos zh7, if_neg (fun z => (inR_t.mp z).1 zh11)]) | exact j28 W B _ hE h4 (by rw [hcl, if_pos zh7, if_neg (fun z => (inR_t.mp z).2 (Int32.not_lt.mp zh23))]) | exact j28 W B _ hE h4 (by rw [hcl, if_pos zh7, if_pos (inR_t.mpr ⟨zh11, Int32.not_le.mpr zh23⟩)]; exact zh7)
set_option maxRecDepth 100000 in
theorem c_X10_sign (hM : x_Lay MR) (hS2 : x_S2 X) {A : Nat} (hA : A ≤ 8) (hAr : MI 1 6 = nI A) (hI : shI MI ML A) {x y : Int32} : Ct X yX10_sign cX10_sign 4 (some .int) 13 0 0 [.ref 0, .int x, .int y] n SH MI ML MR n SH (shQ MI ML MR A x True (igAns 18 6 64 x y)) := by
  refine Ct_of (by decide) (Nat.le_of_ble_eq_true rfl) (fun G hG => ?_)
  have j28 : ∀ W B t, shE MI ML A W B → (funTr W x = 0 → W (89 + 7 * x.toNatClampNeg) 4 = 1) → t = (if fewTr W x = 0 then (if inR y (W (89 + 7 * x.toNatClampNeg) 18) = true then 0 else 1) else fewTr W x) → RW X G RX10 cX10_sign 4 (x_rm 13 0 0) n SH W B MR 0 0 28 [(3, .int t), (0, .ref 0), (1, .int x), (2, .int y)] [] := by
    intro W B t hE h4 ht
    by_cases h1 : fewTr W x = 0
    · obtain ⟨⟨f, hf, rfl⟩, hmt⟩ := fewTr_ex h1
      rw [nI_clamp (show f < 2 ^ 31 by omega)] at h4 ht
      obtain ⟨-, -, -, -, m5, m7, m8, m10, m12, m17, s1, s2, s3, s4, s5, s6, -⟩ := shOf hM hf
      by_cases h2 : inR y (W (89 + 7 * f) 18) = true
      · rw [if_pos h1, if_pos h2] at ht
        subst ht
        refine r_iload_n 0 rfl dX10_sign_28 ?_
        refine r_ifne (tgt := 51) dX10_sign_29 (by decide) (fun zh29 => ?_) (fun zh29 => ?_)
        · exact absurd zh29 (by decide)
        refine r_aload_n 1 rfl dX10_sign_32 ?_
        refine r_aload_n 1 rfl dX10_sign_33 ?_
        refine r_iload_n 2 rfl dX10_sign_34 ?_
        refine r_Vg [.int _] dX10_sign_35 lk_X10_194 mb_X10_sheetOf in_X10_sheetOf se_X10_sheetOf rfl (c_X10_sheetOf hM hS2 hA (shE_A hE hAr) hE.2.2.2.2.2.1 hf) rfl rfl rfl (Nat.le_of_ble_eq_true rfl) (rfl) (fun r W2 B2 C hz => ?_)
        obtain ⟨rfl, rfl, -, -, -, hs2⟩ := hz
        obtain ⟨rfl, rfl⟩ := hs2 (h4 (fewTr_f h1))
        show RW X G _ _ _ _ _ _ _ _ _ _ _ _ _ [.ref (89 + 7 * f), .ref 0]
        refine r_getr dX10_sign_38 fl_X10_244 (shOf hM hf).1 m17 ?_
        refine r_iload_n 3 rfl dX10_sign_41 ?_
        refine r_Sf [.ref _, .int _] dX10_sign_42 lk_X10_140 mb_X10_pick sc_X10_pick rfl (c_X10_pick (N := 64) s6 (by decide)) rfl (Nat.le_of_ble_eq_true rfl) (rfl) ?_
        refine r_Vf [.int _] dX10_sign_45 lk_X10_115 mb_X10_told in_X10_told se_X10_told rfl (c_X10_told) rfl rfl rfl (Nat.le_of_ble_eq_true rfl) (rfl) ?_
        refine r_goto (tgt := 56) dX10_sign_48 (by decide) ?_
        exact r_iret hG dX10_sign_56 (sq_yes hE (by unfold igAns; rw [fewTr_u, if_pos h1, nI_clamp (by omega), u2_row _ _ (by omega), u2_row _ _ (by omega), if_pos h2]) (fun _ q => by rw [nI_clamp (by omega)]; exact h4 q))
      · rw [if_pos h1, if_neg h2] at ht
        subst ht
        refine r_iload_n 0 rfl dX10_sign_28 ?_
        refine r_ifne (tgt := 51) dX10_sign_29 (by decide) (fun zh29 => ?_) (fun zh29 => ?_)
        rotate_left
        · exact absurd zh29 (by decide)
        refine r_aload_n 1 rfl dX10_sign_51 ?_
        refine r_iload_n 0 rfl dX10_sign_52 ?_
        refine r_Vf [.int _] dX10_sign_53 lk_X10_86 mb_X10_refuse in_X10_refuse se_X10_refuse rfl (c_X10_refuse) rfl rfl rfl (Nat.le_of_ble_eq_true rfl) (rfl) ?_
        exact r_iret hG dX10_sign_56 (sq_yes hE (by unfold igAns; rw [fewTr_u, if_pos h1, nI_clamp (by omega), u2_row _ _ (by omega), if_neg h2]) (fun _ q => by rw [nI_clamp (by omega)]; exact h4 q))
    · rw [if_neg h1] at ht
      refine r_iload_n 0 rfl dX10_sign_28 ?_
      refine r_ifne (tgt := 51) dX10_sign_29 (by decide) (fun zh29 => ?_) (fun zh29 => ?_)
      rotate_left
      · exact absurd zh29 (fun q => h1 (ht ▸ q))
      refine r_aload_n 1 rfl dX10_sign_51 ?_
      refine r_iload_n 0 rfl dX10_sign_52 ?_
      refine r_Vf [.int _] dX10_sign_53 lk_X10_86 mb_X10_refuse in_X10_refuse se_X10_refuse rfl (c_X10_refuse) rfl rfl rfl (Nat.le_of_ble_eq_true rfl) (rfl) ?_
      exact r_iret hG dX10_sign_56 (sq_yes hE (by unfold igAns; rw [fewTr_u, if_neg h1, ht]) (fun _ => h4))
  refine r_aload_n 0 rfl dX10_sign_0 ?_
  refine r_iload_n 1 rfl dX10_sign_1 ?_
  refine r_Vg [.int _] dX10_sign_2 lk_X10_232 mb_X10_fewestTrouble in_X10_fewestTrouble se_X10_fewestTrouble rfl (c_X10_fewestTrouble hM hS2 hA hAr hI) rfl rfl rfl (Nat.le_of_ble_eq_true rfl) (rfl) (fun r W B C hz => ?_)
  obtain ⟨rfl, hE, h0, rfl, h4⟩ := hz
  show RW X G _ _ _ _ _ _ _ _ _ _ _ _ _ [.int (fewTr W x)]
  refine r_istore_n (ls2 := [(3, .int (fewTr W x)), (0, .ref 0), (1, .int x), (2, .int y)]) dX10_sign_5 (by decide) rfl ?_
  refine r_iload_n 0 rfl dX10_sign_6 ?_
  refine r_ifne (tgt := 28) dX10_sign_7 (by decide) (fun zh7 => ?_) (fun zh7 => ?_)
  · first | exact j28 W B _ hE h4 (by rw [if_neg zh7]) | exact j28 W B _ hE h4 (by rw [if_pos zh7, if_neg (fun z => (inR_t.mp z).1 zh11)]) | exact j28 W B _ hE h4 (by rw [hcl, if_pos zh7, if_neg (fun z => (inR_t.mp z).2 (Int32.not_lt.mp zh23))]) | exact j28 W B _ hE h4 (by rw [hcl, if_pos zh7, if_pos (inR_t.mpr ⟨zh11, Int32.not_le.mpr zh23⟩)]; exact zh7)
  · refine r_iload_n 3 rfl dX10_sign_10 ?_
    refine r_iflt (tgt := 26) dX10_sign_11 (by decide) (fun zh11 => ?_) (fun zh11 => ?_)
    · refine r_iconst (v := 1) rfl dX10_sign_26 ?_
      refine r_istore_n (ls2 := [(3, .int 1), (0, .ref 0), (1, .int x), (2, .int y)]) dX10_sign_27 (by decide) rfl ?_
      first | exact j28 W B _ hE h4 (by rw [if_neg zh7]) | exact j28 W B _ hE h4 (by rw [if_pos zh7, if_neg (fun z => (inR_t.mp z).1 zh11)]) | exact j28 W B _ hE h4 (by rw [hcl, if_pos zh7, if_neg (fun z => (inR_t.mp z).2 (Int32.not_lt.mp zh23))]) | exact j28 W B _ hE h4 (by rw [hcl, if_pos zh7, if_pos (inR_t.mpr ⟨zh11, Int32.not_le.mpr zh23⟩)]; exact zh7)
    · refine r_iload_n 3 rfl dX10_sign_14 ?_
      obtain ⟨f, hf, rfl⟩ := (fewTr_ex zh7).1
      have hcl : (nI f).toNatClampNeg = f := nI_clamp (by omega)
      refine r_aload_n 1 rfl dX10_sign_15 ?_
      refine r_iload_n 2 rfl dX10_sign_16 ?_
      refine r_Vg [.int _] dX10_sign_17 lk_X10_194 mb_X10_sheetOf in_X10_sheetOf se_X10_sheetOf rfl (c_X10_sheetOf hM hS2 hA (shE_A hE hAr) hE.2.2.2.2.2.1 hf) rfl rfl rfl (Nat.le_of_ble_eq_true rfl) (rfl) (fun r W2 B2 C hz => ?_)
      obtain ⟨rfl, rfl, -, -, -, hs2⟩ := hz
      obtain ⟨e1, e2⟩ := hs2 (by rw [← hcl]; exact h4 (fewTr_f zh7))
      rw [e1, e2]
      show RW X G _ _ _ _ _ _ _ _ _ _ _ _ _ [.ref (89 + 7 * f), .int y]
      refine r_geti dX10_sign_20 fl_X10_241 (shOf hM hf).1 ?_
      refine r_icmplt (tgt := 28) dX10_sign_23 (by decide) (fun zh23 => ?_) (fun zh23 => ?_)
      · first | exact j28 W B _ hE h4 (by rw [if_neg zh7]) | exact j28 W B _ hE h4 (by rw [if_pos zh7, if_neg (fun z => (inR_t.mp z).1 zh11)]) | exact j28 W B _ hE h4 (by rw [hcl, if_pos zh7, if_neg (fun z => (inR_t.mp z).2 (Int32.not_lt.mp zh23))]) | exact j28 W B _ hE h4 (by rw [hcl, if_pos zh7, if_pos (inR_t.mpr ⟨zh11, Int32.not_le.mpr zh23⟩)]; exact zh7)
      · refine r_iconst (v := 1) rfl dX10_sign_26 ?_
        refine r_istore_n (ls2 := [(3, .int 1), (0, .ref 0), (1, .int (nI f)), (2, .int y)]) dX10_sign_27 (by decide) rfl ?_
        first | exact j28 W B _ hE h4 (by rw [if_neg zh7]) | exact j28 W B _ hE h4 (by rw [if_pos zh7, if_neg (fun z => (inR_t.mp z).1 zh11)]) | exact j28 W B _ hE h4 (by rw [hcl, if_pos zh7, if_neg (fun z => (inR_t.mp z).2 (Int32.not_lt.mp zh23))]) | exact j28 W B _ hE h4 (by rw [hcl, if_pos zh7, if_pos (inR_t.mpr ⟨zh11, Int32.not_le.mpr zh23⟩)]; exact zh7)
end calls

/-! the reference: calls on REQUIRED CUBES; PRIMES -/
def rqAns (V : Mi) (A b : Nat) (x : Int32) : Int32 × Int32 := if rTr V x = 0 then (nI (rqL V x A b).length, 0) else (-1, rTr V x)
def rqcA (V : Mi) (A b : Nat) (x y : Int32) : Int32 × Int32 := if rTr V x = 0 then (if inR y (nI (rqL V x A b).length) = true then ((rqL V x A b).getD y.toNatClampNeg 0, 0) else (-1, 1)) else (-1, rTr V x)
def rqW (V : Mi) (A b : Nat) (x : Int32) : Mi := if rTr V x = 0 then ndM V (V 139) (rqL V x A b) else V
def flN (V : Mi) (x : Int32) : Nat → Nat
  | 0 => 0
  | k + 1 => flN V x k + (if flR V x k = true then 1 else 0)
def rflA (V : Mi) (A : Nat) (x : Int32) : Int32 × Int32 := if rTr V x = 0 then (nI (flN V x A), 0) else (-1, rTr V x)
def rsfA (V : Mi) (B : Nat → Nat → Int64) (A : Nat) (x y : Int32) : Int32 × Int32 := if rTr V x = 0 then (if inB y 0 728 = true then (b2 (sfP V B x.toNatClampNeg y.toNatClampNeg A), 0) else (-1, 2)) else (-1, rTr V x)
theorem gDe {α : Type} {L : List α} {i : Nat} (d : α) (h : i < L.length) : L.getD i d = L[i] := by simp [List.getD, h]
theorem gDl {α : Type} {L M : List α} {i : Nat} (d : α) (h : i < L.length) : (L ++ M).getD i d = L.getD i d := by simp [List.getD, List.getElem?_append_left h]
theorem gDr {α : Type} {L : List α} {x : α} (d : α) : (L ++ [x]).getD L.length d = x := by simp [List.getD]
def wiR (sf : Nat → Bool) (T : Nat → Int64) (c : Nat) : Bool := (List.range 729).any (fun o => decide (¬ o = c) && (sf o && decide (T c &&& (T o ^^^ -1) = 0)))
def prQ (sf : Nat → Bool) (T : Nat → Int64) (k : Nat) : List Nat := (List.range k).filter (fun c => sf c && !wiR sf T c)
theorem prQ_s (sf : Nat → Bool) (T : Nat → Int64) (k : Nat) : prQ sf T (k + 1) = if (sf k && !wiR sf T k) = true then prQ sf T k ++ [k] else prQ sf T k := by
  unfold prQ
  rw [List.range_succ, List.filter_append]
  by_cases h : (sf k && !wiR sf T k) = true
  · rw [if_pos h]
    simp [h]
  · rw [if_neg h]
    simp [h]
theorem prQ_len (sf : Nat → Bool) (T : Nat → Int64) (k : Nat) : (prQ sf T k).length ≤ k := by
  unfold prQ
  have := List.length_filter_le (fun c => sf c && !wiR sf T c) (List.range k)
  rw [List.length_range] at this
  exact this
theorem prQ_lt {sf : Nat → Bool} {T : Nat → Int64} {k i : Nat} (h : i < (prQ sf T k).length) : (prQ sf T k).getD i 0 < k := by
  have : (prQ sf T k).getD i 0 ∈ prQ sf T k := by
    rw [gDe _ h]
    exact List.getElem_mem h
  exact List.mem_range.mp (List.mem_filter.mp this).1
/-- numbers laid into a row from a place on -/
def lyN (r : Nat → Int32) (o : Nat) (L : List Nat) : Nat → Int32 := fun j => if o ≤ j ∧ j < o + L.length then nI (L.getD (j - o) 0) else r j
theorem lyN_app (r : Nat → Int32) (o : Nat) (L : List Nat) (x : Nat) : up (lyN r o L) (o + L.length) (nI x) = lyN r o (L ++ [x]) := by
  funext j
  unfold up lyN
  rw [List.length_append]
  by_cases e : j = o + L.length
  · rw [if_pos e, if_pos (by simp; omega)]
    subst e
    rw [show o + L.length - o = L.length by omega, gDr]
  · rw [if_neg e]
    by_cases h : o ≤ j ∧ j < o + L.length
    · rw [if_pos h, if_pos (by simp; omega), gDl _ (by omega)]
    · rw [if_neg h, if_neg (by simp; omega)]
theorem lyN_nil (r : Nat → Int32) (o : Nat) : lyN r o [] = r := by
  funext j
  unfold lyN
  rw [if_neg (fun z => by have := z.2; have := z.1; simp at *; omega)]
def prW (W : Mi) (f : Nat) (L : List Nat) : Mi := u2 (sr W 144 (lyN (W 144) (729 * f) L)) 143 f (nI L.length)
def sfW (W : Mi) (sf : Nat → Bool) (k : Nat) : Mi := sr W 142 (fun j => if j < k then b2 (sf j) else W 142 j)
/-- what the reference keeps of PRIMES -/
def rI (pl : Nat → List Nat) (W : Mi) : Prop := ∀ f, f < 5 → W 140 f = 0 ∨ (W 140 f = 1 ∧ W 143 f = nI (pl f).length ∧ ∀ i, i < (pl f).length → W 144 (729 * f + i) = nI ((pl f).getD i 0))
section rprimes
variable {X : xG} {n : Nat} {MI : Nat → Nat → Int32} {ML : Nat → Nat → Int64} {MR : Nat → Nat → Option Nat}
set_option maxRecDepth 100000 in
theorem c_X11_required (hM : x_Lay MR) {A S b : Nat} (hA : A ≤ 8) (hS : S ≤ 6) (hAr : MI 128 6 = nI A) (hP : okA (arR MI) A S) (hb : b < 6) (hbr : MI 130 1 = nI b) {x : Int32} : Cf X yX11_required cX11_required 3 (some .int) 6 [.ref 124, .int x] n SH MI ML MR (some (.int (rqAns (th MI) A b x).1)) (rfM (rqW (th MI) A b x) (rqAns (th MI) A b x).2) ML MR := by
  obtain ⟨V, hV⟩ : ∃ V, V = th MI := ⟨_, rfl⟩
  have hPV : okA (arR V) A S := by rw [hV]; exact hP
  have hAV : V 128 6 = nI A := by rw [hV]; exact hAr
  have hbV : V 130 1 = nI b := by rw [hV]; exact hbr
  rw [← hV]
  by_cases h1 : rTr V x = 0
  · have ha : rqAns V A b x = (nI (rqL V x A b).length, 0) := if_pos h1
    have hw : rqW V A b x = ndM V (V 139) (rqL V x A b) := if_pos h1
    rw [ha, hw]
    refine Ct_of (by decide) (Nat.le_of_ble_eq_true rfl) (fun G hG => ?_)
    refine r_aload_n 0 rfl dX11_required_0 ?_
    refine r_iconst (v := 0) rfl dX11_required_1 ?_
    refine r_puti dX11_required_2 fl_X11_3 rfl rfl rfl ?_
    refine r_mem hV.symm rfl rfl ?_
    refine r_aload_n 0 rfl dX11_required_5 ?_
    refine r_iload_n 1 rfl dX11_required_6 ?_
    refine r_Vf [.int _] dX11_required_7 lk_X11_344 mb_X11_refuses in_X11_refuses se_X11_refuses rfl (c_X11_refuses) rfl rfl rfl (Nat.le_of_ble_eq_true rfl) (rfl) ?_
    refine r_istore_n (ls2 := [(2, .int (rTr V x)), (0, .ref 124), (1, .int x)]) dX11_required_10 (by decide) rfl ?_
    refine r_iload_n 0 rfl dX11_required_11 ?_
    refine r_ifle (tgt := 21) dX11_required_12 (by decide) (fun zh12 => ?_) (fun zh12 => ?_)
    rotate_left
    · exact absurd zh12 (fun q => q (by rw [h1]; exact Int32.le_refl 0))
    refine r_aload_n 1 rfl dX11_required_21 ?_
    refine r_iload_n 2 rfl dX11_required_22 ?_
    refine r_Vn [.int _] dX11_required_23 lk_X11_373 mb_X11_needsOf in_X11_needsOf se_X11_needsOf rfl (c_X11_needsOf hM hA hS hAV hPV hb hbV) rfl rfl rfl (Nat.le_of_ble_eq_true rfl) (rfl) ?_
    refine r_aload_n 1 rfl dX11_required_26 ?_
    refine r_aload_n 1 rfl dX11_required_27 ?_
    refine r_geti dX11_required_28 fl_X11_358 rfl ?_
    rw [ndM_c]
    refine r_Vf [.int _] dX11_required_31 lk_X11_267 mb_X11_good in_X11_good se_X11_good rfl (c_X11_good) rfl rfl rfl (Nat.le_of_ble_eq_true rfl) (rfl) ?_
    exact r_iret hG dX11_required_34 (⟨rfl, rfl, rfl, rfl⟩)
  · have hp : 0 < rTr V x := rTr_0.resolve_left h1
    have ha : rqAns V A b x = (-1, rTr V x) := if_neg h1
    have hw : rqW V A b x = V := if_neg h1
    rw [ha, hw]
    refine Ct_of (by decide) (Nat.le_of_ble_eq_true rfl) (fun G hG => ?_)
    refine r_aload_n 0 rfl dX11_required_0 ?_
    refine r_iconst (v := 0) rfl dX11_required_1 ?_
    refine r_puti dX11_required_2 fl_X11_3 rfl rfl rfl ?_
    refine r_mem hV.symm rfl rfl ?_
    refine r_aload_n 0 rfl dX11_required_5 ?_
    refine r_iload_n 1 rfl dX11_required_6 ?_
    refine r_Vf [.int _] dX11_required_7 lk_X11_344 mb_X11_refuses in_X11_refuses se_X11_refuses rfl (c_X11_refuses) rfl rfl rfl (Nat.le_of_ble_eq_true rfl) (rfl) ?_
    refine r_istore_n (ls2 := [(2, .int (rTr V x)), (0, .ref 124), (1, .int x)]) dX11_required_10 (by decide) rfl ?_
    refine r_iload_n 0 rfl dX11_required_11 ?_
    refine r_ifle (tgt := 21) dX11_required_12 (by decide) (fun zh12 => ?_) (fun zh12 => ?_)
    · exact absurd zh12 (Int32.not_le.mpr hp)
    refine r_aload_n 1 rfl dX11_required_15 ?_
    refine r_iload_n 0 rfl dX11_required_16 ?_
    refine r_Vf [.int _] dX11_required_17 lk_X11_251 mb_X11_refused in_X11_refused se_X11_refused rfl (c_X11_refused) rfl rfl rfl (Nat.le_of_ble_eq_true rfl) (rfl) ?_
    exact r_iret hG dX11_required_20 (⟨rfl, rfl, rfl, rfl⟩)
set_option maxRecDepth 100000 in
theorem c_X11_requiredCube (hM : x_Lay MR) {A S b : Nat} (hA : A ≤ 8) (hS : S ≤ 6) (hAr : MI 128 6 = nI A) (hP : okA (arR MI) A S) (hb : b < 6) (hbr : MI 130 1 = nI b) {x y : Int32} : Cf X yX11_requiredCube cX11_requiredCube 4 (some .int) 6 [.ref 124, .int x, .int y] n SH MI ML MR (some (.int (rqcA (th MI) A b x y).1)) (rfM (rqW (th MI) A b x) (rqcA (th MI) A b x y).2) ML MR := by
  obtain ⟨V, hV⟩ : ∃ V, V = th MI := ⟨_, rfl⟩
  have hPV : okA (arR V) A S := by rw [hV]; exact hP
  have hAV : V 128 6 = nI A := by rw [hV]; exact hAr
  have hbV : V 130 1 = nI b := by rw [hV]; exact hbr
  rw [← hV]
  by_cases h1 : rTr V x = 0
  · have hw : rqW V A b x = ndM V (V 139) (rqL V x A b) := if_pos h1
    have hlen := rqL_len V x b hA
    by_cases h2 : inR y (nI (rqL V x A b).length) = true
    · obtain ⟨k, hk, rfl⟩ := inR_ex (by omega) (inR_t.mp h2).1 (inR_t.mp h2).2
      have ha : rqcA V A b x (nI k) = ((rqL V x A b).getD k 0, 0) := by unfold rqcA; rw [if_pos h1, if_pos h2, nI_clamp (by omega)]
      rw [ha, hw]
      refine Ct_of (by decide) (Nat.le_of_ble_eq_true rfl) (fun G hG => ?_)
      refine r_aload_n 0 rfl dX11_requiredCube_0 ?_
      refine r_iconst (v := 0) rfl dX11_requiredCube_1 ?_
      refine r_puti dX11_requiredCube_2 fl_X11_3 rfl rfl rfl ?_
      refine r_mem hV.symm rfl rfl ?_
      refine r_aload_n 0 rfl dX11_requiredCube_5 ?_
      refine r_iload_n 1 rfl dX11_requiredCube_6 ?_
      refine r_Vf [.int _] dX11_requiredCube_7 lk_X11_344 mb_X11_refuses in_X11_refuses se_X11_refuses rfl (c_X11_refuses) rfl rfl rfl (Nat.le_of_ble_eq_true rfl) (rfl) ?_
      refine r_istore_n (ls2 := [(3, .int (rTr V x)), (0, .ref 124), (1, .int x), (2, .int (nI k))]) dX11_requiredCube_10 (by decide) rfl ?_
      refine r_iload_n 0 rfl dX11_requiredCube_11 ?_
      refine r_ifle (tgt := 21) dX11_requiredCube_12 (by decide) (fun zh12 => ?_) (fun zh12 => ?_)
      rotate_left
      · exact absurd zh12 (fun q => q (by rw [h1]; exact Int32.le_refl 0))
      refine r_aload_n 1 rfl dX11_requiredCube_21 ?_
      refine r_iload_n 2 rfl dX11_requiredCube_22 ?_
      refine r_Vn [.int _] dX11_requiredCube_23 lk_X11_373 mb_X11_needsOf in_X11_needsOf se_X11_needsOf rfl (c_X11_needsOf hM hA hS hAV hPV hb hbV) rfl rfl rfl (Nat.le_of_ble_eq_true rfl) (rfl) ?_
      refine r_iload_n 3 rfl dX11_requiredCube_26 ?_
      refine r_iflt (tgt := 38) dX11_requiredCube_27 (by decide) (fun zh27 => ?_) (fun zh27 => ?_)
      · exact absurd zh27 (nI_pos (by omega))
      refine r_iload_n 3 rfl dX11_requiredCube_30 ?_
      refine r_aload_n 1 rfl dX11_requiredCube_31 ?_
      refine r_geti dX11_requiredCube_32 fl_X11_358 rfl ?_
      refine r_icmplt (tgt := 44) dX11_requiredCube_35 (by decide) (fun zh35 => ?_) (fun zh35 => ?_)
      rotate_left
      · exact absurd zh35 (fun q => q (by rw [ndM_c]; exact nI_lt hk (by omega)))
      refine r_aload_n 1 rfl dX11_requiredCube_44 ?_
      refine r_aload_n 1 rfl dX11_requiredCube_45 ?_
      refine r_getr dX11_requiredCube_46 fl_X11_65 rfl (hM _ _ _ rfl) ?_
      refine r_iload_n 3 rfl dX11_requiredCube_49 ?_
      refine r_iald dX11_requiredCube_50 rfl (vp_in_nI (show k < 41 by omega) (by decide)) ?_
      rw [ndM_r, nI_clamp (by omega), layL_lt hk]
      refine r_Vf [.int _] dX11_requiredCube_51 lk_X11_267 mb_X11_good in_X11_good se_X11_good rfl (c_X11_good) rfl rfl rfl (Nat.le_of_ble_eq_true rfl) (rfl) ?_
      exact r_iret hG dX11_requiredCube_54 (⟨rfl, rfl, rfl, rfl⟩)
    · have ha : rqcA V A b x y = (-1, 1) := by unfold rqcA; rw [if_pos h1, if_neg h2]
      rw [ha, hw]
      refine Ct_of (by decide) (Nat.le_of_ble_eq_true rfl) (fun G hG => ?_)
      refine r_aload_n 0 rfl dX11_requiredCube_0 ?_
      refine r_iconst (v := 0) rfl dX11_requiredCube_1 ?_
      refine r_puti dX11_requiredCube_2 fl_X11_3 rfl rfl rfl ?_
      refine r_mem hV.symm rfl rfl ?_
      refine r_aload_n 0 rfl dX11_requiredCube_5 ?_
      refine r_iload_n 1 rfl dX11_requiredCube_6 ?_
      refine r_Vf [.int _] dX11_requiredCube_7 lk_X11_344 mb_X11_refuses in_X11_refuses se_X11_refuses rfl (c_X11_refuses) rfl rfl rfl (Nat.le_of_ble_eq_true rfl) (rfl) ?_
      refine r_istore_n (ls2 := [(3, .int (rTr V x)), (0, .ref 124), (1, .int x), (2, .int y)]) dX11_requiredCube_10 (by decide) rfl ?_
      refine r_iload_n 0 rfl dX11_requiredCube_11 ?_
      refine r_ifle (tgt := 21) dX11_requiredCube_12 (by decide) (fun zh12 => ?_) (fun zh12 => ?_)
      rotate_left
      · exact absurd zh12 (fun q => q (by rw [h1]; exact Int32.le_refl 0))
      refine r_aload_n 1 rfl dX11_requiredCube_21 ?_
      refine r_iload_n 2 rfl dX11_requiredCube_22 ?_
      refine r_Vn [.int _] dX11_requiredCube_23 lk_X11_373 mb_X11_needsOf in_X11_needsOf se_X11_needsOf rfl (c_X11_needsOf hM hA hS hAV hPV hb hbV) rfl rfl rfl (Nat.le_of_ble_eq_true rfl) (rfl) ?_
      refine r_iload_n 3 rfl dX11_requiredCube_26 ?_
      refine r_iflt (tgt := 38) dX11_requiredCube_27 (by decide) (fun zh27 => ?_) (fun zh27 => ?_)
      · refine r_aload_n 1 rfl dX11_requiredCube_38 ?_
        refine r_iconst (v := 1) rfl dX11_requiredCube_39 ?_
        refine r_Vf [.int _] dX11_requiredCube_40 lk_X11_251 mb_X11_refused in_X11_refused se_X11_refused rfl (c_X11_refused) rfl rfl rfl (Nat.le_of_ble_eq_true rfl) (rfl) ?_
        exact r_iret hG dX11_requiredCube_43 (⟨rfl, rfl, rfl, rfl⟩)
      · refine r_iload_n 3 rfl dX11_requiredCube_30 ?_
        refine r_aload_n 1 rfl dX11_requiredCube_31 ?_
        refine r_geti dX11_requiredCube_32 fl_X11_358 rfl ?_
        refine r_icmplt (tgt := 44) dX11_requiredCube_35 (by decide) (fun zh35 => ?_) (fun zh35 => ?_)
        · rw [ndM_c] at zh35
          exact absurd (inR_t.mpr ⟨zh27, Int32.not_le.mpr zh35⟩) h2
        · refine r_aload_n 1 rfl dX11_requiredCube_38 ?_
          refine r_iconst (v := 1) rfl dX11_requiredCube_39 ?_
          refine r_Vf [.int _] dX11_requiredCube_40 lk_X11_251 mb_X11_refused in_X11_refused se_X11_refused rfl (c_X11_refused) rfl rfl rfl (Nat.le_of_ble_eq_true rfl) (rfl) ?_
          exact r_iret hG dX11_requiredCube_43 (⟨rfl, rfl, rfl, rfl⟩)
  · have hp : 0 < rTr V x := rTr_0.resolve_left h1
    have ha : rqcA V A b x y = (-1, rTr V x) := if_neg h1
    have hw : rqW V A b x = V := if_neg h1
    rw [ha, hw]
    refine Ct_of (by decide) (Nat.le_of_ble_eq_true rfl) (fun G hG => ?_)
    refine r_aload_n 0 rfl dX11_requiredCube_0 ?_
    refine r_iconst (v := 0) rfl dX11_requiredCube_1 ?_
    refine r_puti dX11_requiredCube_2 fl_X11_3 rfl rfl rfl ?_
    refine r_mem hV.symm rfl rfl ?_
    refine r_aload_n 0 rfl dX11_requiredCube_5 ?_
    refine r_iload_n 1 rfl dX11_requiredCube_6 ?_
    refine r_Vf [.int _] dX11_requiredCube_7 lk_X11_344 mb_X11_refuses in_X11_refuses se_X11_refuses rfl (c_X11_refuses) rfl rfl rfl (Nat.le_of_ble_eq_true rfl) (rfl) ?_
    refine r_istore_n (ls2 := [(3, .int (rTr V x)), (0, .ref 124), (1, .int x), (2, .int y)]) dX11_requiredCube_10 (by decide) rfl ?_
    refine r_iload_n 0 rfl dX11_requiredCube_11 ?_
    refine r_ifle (tgt := 21) dX11_requiredCube_12 (by decide) (fun zh12 => ?_) (fun zh12 => ?_)
    · exact absurd zh12 (Int32.not_le.mpr hp)
    refine r_aload_n 1 rfl dX11_requiredCube_15 ?_
    refine r_iload_n 0 rfl dX11_requiredCube_16 ?_
    refine r_Vf [.int _] dX11_requiredCube_17 lk_X11_251 mb_X11_refused in_X11_refused se_X11_refused rfl (c_X11_refused) rfl rfl rfl (Nat.le_of_ble_eq_true rfl) (rfl) ?_
    exact r_iret hG dX11_requiredCube_20 (⟨rfl, rfl, rfl, rfl⟩)
theorem flN_le (V : Mi) (x : Int32) : ∀ k, flN V x k ≤ k
  | 0 => Nat.le_refl _
  | k + 1 => by
    have := flN_le V x k
    rw [flN]
    split <;> omega
set_option maxRecDepth 100000 in
theorem c_X11_falls (hM : x_Lay MR) {A S : Nat} (hA : A ≤ 8) (hS : S ≤ 6) (hAr : MI 128 6 = nI A) (hP : okA (arR MI) A S) {x : Int32} : Cf X yX11_falls cX11_falls 5 (some .int) 5 [.ref 124, .int x] n SH MI ML MR (some (.int (rflA (th MI) A x).1)) (rfM (th MI) (rflA (th MI) A x).2) ML MR := by
  obtain ⟨V, hV⟩ : ∃ V, V = th MI := ⟨_, rfl⟩
  have c6 : (6 : Int32).toNatClampNeg = 6 := rfl
  have hPV : okA (arR V) A S := by rw [hV]; exact hP
  have hAV : V 128 6 = nI A := by rw [hV]; exact hAr
  rw [← hV]
  by_cases h1 : rTr V x = 0
  · have ha : rflA V A x = (nI (flN V x A), 0) := if_pos h1
    rw [ha]
    refine Ct_of (by decide) (Nat.le_of_ble_eq_true rfl) (fun G hG => ?_)
    have loop : ∀ i, i ≤ A → RW X G RX11 cX11_falls 5 (x_rm 5 0 0) n SH V ML MR 0 0 26 [(4, .int (nI i)), (3, .int (nI (flN V x i))), (2, .int (rTr V x)), (0, .ref 124), (1, .int x)] [] := by
      refine bwd (fun i hi ih => ?_)
      refine r_iload 0 rfl dX11_falls_26 ?_
      refine r_aload_n 3 rfl dX11_falls_28 ?_
      refine r_getr dX11_falls_29 fl_X11_31 rfl (hM _ _ _ rfl) ?_
      refine r_bipush (v := 6) rfl dX11_falls_32 ?_
      refine r_iald dX11_falls_34 rfl (vpk (k := 6) (by decide) (by decide) rfl) ?_
      refine r_icmpge (tgt := 62) dX11_falls_35 (by decide) (fun zh35 => ?_) (fun zh35 => ?_)
      · rw [c6, hAV] at zh35
        obtain rfl : A = i := by have := geL (k := A) (by omega) (by omega) zh35; omega
        refine r_aload_n 3 rfl dX11_falls_62 ?_
        refine r_iload_n 1 rfl dX11_falls_63 ?_
        refine r_Vf [.int _] dX11_falls_64 lk_X11_267 mb_X11_good in_X11_good se_X11_good rfl (c_X11_good) rfl rfl rfl (Nat.le_of_ble_eq_true rfl) (rfl) ?_
        exact r_iret hG dX11_falls_67 (⟨rfl, rfl, rfl, rfl⟩)
      · rw [c6, hAV] at zh35
        have hlt : i < A := ltL (by omega) zh35
        refine r_iload_n 1 rfl dX11_falls_38 ?_
        refine r_aload_n 3 rfl dX11_falls_39 ?_
        refine r_iload_n 4 rfl dX11_falls_40 ?_
        refine r_iload 0 rfl dX11_falls_41 ?_
        refine r_Vf [.int _, .int _] dX11_falls_43 lk_X11_376 mb_X11_falling in_X11_falling se_X11_falling rfl (c_X11_falling hM hA hS hPV hlt) rfl rfl rfl (Nat.le_of_ble_eq_true rfl) (rfl) ?_
        refine r_ifeq (tgt := 53) dX11_falls_46 (by decide) (fun zh46 => ?_) (fun zh46 => ?_)
        · refine r_iconst (v := 0) rfl dX11_falls_53 ?_
          refine r_iadd dX11_falls_54 ?_
          refine r_nmi (fun zv55 ze55 => ?_)
          refine r_istore_n (ls2 := [(3, .int zv55), (4, .int (nI i)), (2, .int (rTr V x)), (0, .ref 124), (1, .int x)]) dX11_falls_55 (by decide) rfl ?_
          refine r_iinc (v := (nI (i + 1))) (ls2 := [(4, .int (nI (i + 1))), (3, .int zv55), (2, .int (rTr V x)), (0, .ref 124), (1, .int x)]) 1 dX11_falls_56 rfl (x_inc i) (by decide) rfl ?_
          refine r_goto (tgt := 26) dX11_falls_59 (by decide) ?_
          obtain rfl : zv55 = nI (flN V x (i + 1)) := by
            rw [ze55, flN]
            first
              | (have z1 : flR V x i = true := b2n.mp zh46
                 rw [if_pos z1]; exact nI_add _ 1)
              | (have z1 : ¬ flR V x i = true := by rw [b2z.mp zh46]; decide
                 rw [if_neg z1]; exact nI_add _ 0)
          exact r_sub [0, 1, 2, 3, 4] rfl (ih hlt)
        · refine r_iconst (v := 1) rfl dX11_falls_49 ?_
          refine r_goto (tgt := 54) dX11_falls_50 (by decide) ?_
          refine r_iadd dX11_falls_54 ?_
          refine r_nmi (fun zv55 ze55 => ?_)
          refine r_istore_n (ls2 := [(3, .int zv55), (4, .int (nI i)), (2, .int (rTr V x)), (0, .ref 124), (1, .int x)]) dX11_falls_55 (by decide) rfl ?_
          refine r_iinc (v := (nI (i + 1))) (ls2 := [(4, .int (nI (i + 1))), (3, .int zv55), (2, .int (rTr V x)), (0, .ref 124), (1, .int x)]) 1 dX11_falls_56 rfl (x_inc i) (by decide) rfl ?_
          refine r_goto (tgt := 26) dX11_falls_59 (by decide) ?_
          obtain rfl : zv55 = nI (flN V x (i + 1)) := by
            rw [ze55, flN]
            first
              | (have z1 : flR V x i = true := b2n.mp zh46
                 rw [if_pos z1]; exact nI_add _ 1)
              | (have z1 : ¬ flR V x i = true := by rw [b2z.mp zh46]; decide
                 rw [if_neg z1]; exact nI_add _ 0)
          exact r_sub [0, 1, 2, 3, 4] rfl (ih hlt)
    refine r_aload_n 0 rfl dX11_falls_0 ?_
    refine r_iconst (v := 0) rfl dX11_falls_1 ?_
    refine r_puti dX11_falls_2 fl_X11_3 rfl rfl rfl ?_
    refine r_mem hV.symm rfl rfl ?_
    refine r_aload_n 0 rfl dX11_falls_5 ?_
    refine r_iload_n 1 rfl dX11_falls_6 ?_
    refine r_Vf [.int _] dX11_falls_7 lk_X11_344 mb_X11_refuses in_X11_refuses se_X11_refuses rfl (c_X11_refuses) rfl rfl rfl (Nat.le_of_ble_eq_true rfl) (rfl) ?_
    refine r_istore_n (ls2 := [(2, .int (rTr V x)), (0, .ref 124), (1, .int x)]) dX11_falls_10 (by decide) rfl ?_
    refine r_iload_n 0 rfl dX11_falls_11 ?_
    refine r_ifle (tgt := 21) dX11_falls_12 (by decide) (fun zh12 => ?_) (fun zh12 => ?_)
    rotate_left
    · exact absurd zh12 (fun q => q (by rw [h1]; exact Int32.le_refl 0))
    refine r_iconst (v := 0) rfl dX11_falls_21 ?_
    refine r_istore_n (ls2 := [(3, .int 0), (2, .int (rTr V x)), (0, .ref 124), (1, .int x)]) dX11_falls_22 (by decide) rfl ?_
    refine r_iconst (v := 0) rfl dX11_falls_23 ?_
    refine r_istore (ls2 := [(4, .int 0), (3, .int 0), (2, .int (rTr V x)), (0, .ref 124), (1, .int x)]) dX11_falls_24 (by decide) rfl ?_
    exact r_sub [0, 1, 2, 3, 4] rfl (loop 0 (Nat.zero_le _))
  · have hp : 0 < rTr V x := rTr_0.resolve_left h1
    have ha : rflA V A x = (-1, rTr V x) := if_neg h1
    rw [ha]
    refine Ct_of (by decide) (Nat.le_of_ble_eq_true rfl) (fun G hG => ?_)
    refine r_aload_n 0 rfl dX11_falls_0 ?_
    refine r_iconst (v := 0) rfl dX11_falls_1 ?_
    refine r_puti dX11_falls_2 fl_X11_3 rfl rfl rfl ?_
    refine r_mem hV.symm rfl rfl ?_
    refine r_aload_n 0 rfl dX11_falls_5 ?_
    refine r_iload_n 1 rfl dX11_falls_6 ?_
    refine r_Vf [.int _] dX11_falls_7 lk_X11_344 mb_X11_refuses in_X11_refuses se_X11_refuses rfl (c_X11_refuses) rfl rfl rfl (Nat.le_of_ble_eq_true rfl) (rfl) ?_
    refine r_istore_n (ls2 := [(2, .int (rTr V x)), (0, .ref 124), (1, .int x)]) dX11_falls_10 (by decide) rfl ?_
    refine r_iload_n 0 rfl dX11_falls_11 ?_
    refine r_ifle (tgt := 21) dX11_falls_12 (by decide) (fun zh12 => ?_) (fun zh12 => ?_)
    · exact absurd zh12 (Int32.not_le.mpr hp)
    refine r_aload_n 1 rfl dX11_falls_15 ?_
    refine r_iload_n 0 rfl dX11_falls_16 ?_
    refine r_Vf [.int _] dX11_falls_17 lk_X11_251 mb_X11_refused in_X11_refused se_X11_refused rfl (c_X11_refused) rfl rfl rfl (Nat.le_of_ble_eq_true rfl) (rfl) ?_
    exact r_iret hG dX11_falls_20 (⟨rfl, rfl, rfl, rfl⟩)
set_option maxRecDepth 100000 in
theorem c_X11_safe (hM : x_Lay MR) {A S : Nat} (hA : A ≤ 8) (hS : S ≤ 6) (hAr : MI 128 6 = nI A) (hP : okA (arR MI) A S) {x y : Int32} : Cf X yX11_safe cX11_safe 4 (some .int) 6 [.ref 124, .int x, .int y] n SH MI ML MR (some (.int (rsfA (th MI) ML A x y).1)) (rfM (th MI) (rsfA (th MI) ML A x y).2) ML MR := by
  obtain ⟨V, hV⟩ : ∃ V, V = th MI := ⟨_, rfl⟩
  have hPV : okA (arR V) A S := by rw [hV]; exact hP
  have hAV : V 128 6 = nI A := by rw [hV]; exact hAr
  rw [← hV]
  by_cases h1 : rTr V x = 0
  · obtain ⟨f, hf, rfl⟩ := rTr_f h1
    by_cases h2 : inB y 0 728 = true
    · obtain ⟨c, hc, rfl⟩ := inB_ex (N := 728) (by decide) h2
      have ha : rsfA V ML A (nI f) (nI c) = (b2 (sfP V ML f c A), 0) := by unfold rsfA; rw [if_pos h1, if_pos h2, nI_clamp (by omega), nI_clamp (by omega)]
      rw [ha]
      refine Ct_of (by decide) (Nat.le_of_ble_eq_true rfl) (fun G hG => ?_)
      refine r_aload_n 0 rfl dX11_safe_0 ?_
      refine r_iconst (v := 0) rfl dX11_safe_1 ?_
      refine r_puti dX11_safe_2 fl_X11_3 rfl rfl rfl ?_
      refine r_mem hV.symm rfl rfl ?_
      refine r_aload_n 0 rfl dX11_safe_5 ?_
      refine r_iload_n 1 rfl dX11_safe_6 ?_
      refine r_Vf [.int _] dX11_safe_7 lk_X11_344 mb_X11_refuses in_X11_refuses se_X11_refuses rfl (c_X11_refuses) rfl rfl rfl (Nat.le_of_ble_eq_true rfl) (rfl) ?_
      refine r_istore_n (ls2 := [(3, .int (rTr V (nI f))), (0, .ref 124), (1, .int (nI f)), (2, .int (nI c))]) dX11_safe_10 (by decide) rfl ?_
      refine r_iload_n 0 rfl dX11_safe_11 ?_
      refine r_ifne (tgt := 28) dX11_safe_12 (by decide) (fun zh12 => ?_) (fun zh12 => ?_)
      · exact absurd zh12 (fun q => q h1)
      refine r_iload_n 3 rfl dX11_safe_15 ?_
      refine r_iconst (v := 0) rfl dX11_safe_16 ?_
      refine r_sipush (v := 728) rfl dX11_safe_17 ?_
      refine r_Sf [.int _, .int _, .int _] dX11_safe_20 lk_X11_138 mb_X11_in sc_X11_in rfl (c_X11_in) rfl (Nat.le_of_ble_eq_true rfl) (rfl) ?_
      refine r_ifne (tgt := 28) dX11_safe_23 (by decide) (fun zh23 => ?_) (fun zh23 => ?_)
      rotate_left
      · exact absurd zh23 (b2n.mpr h2)
      refine r_iload_n 0 rfl dX11_safe_28 ?_
      refine r_ifle (tgt := 38) dX11_safe_29 (by decide) (fun zh29 => ?_) (fun zh29 => ?_)
      rotate_left
      · exact absurd zh29 (fun q => q (by rw [h1]; exact Int32.le_refl 0))
      refine r_aload_n 1 rfl dX11_safe_38 ?_
      refine r_aload_n 1 rfl dX11_safe_39 ?_
      refine r_iload_n 2 rfl dX11_safe_40 ?_
      refine r_iload_n 3 rfl dX11_safe_41 ?_
      refine r_Vf [.int _, .int _] dX11_safe_42 lk_X11_382 mb_X11_isSafe in_X11_isSafe se_X11_isSafe rfl (c_X11_isSafe hM hA hS hAV hPV hf (show c < 729 by omega)) rfl rfl rfl (Nat.le_of_ble_eq_true rfl) (rfl) ?_
      refine r_ifeq (tgt := 52) dX11_safe_45 (by decide) (fun zh45 => ?_) (fun zh45 => ?_)
      · refine r_iconst (v := 0) rfl dX11_safe_52 ?_
        refine r_Vf [.int _] dX11_safe_53 lk_X11_267 mb_X11_good in_X11_good se_X11_good rfl (c_X11_good) rfl rfl rfl (Nat.le_of_ble_eq_true rfl) (rfl) ?_
        exact r_iret hG dX11_safe_56 (by first | (rw [b2n.mp zh45]; exact ⟨rfl, rfl, rfl, rfl⟩) | (rw [b2z.mp zh45]; exact ⟨rfl, rfl, rfl, rfl⟩))
      · refine r_iconst (v := 1) rfl dX11_safe_48 ?_
        refine r_goto (tgt := 53) dX11_safe_49 (by decide) ?_
        refine r_Vf [.int _] dX11_safe_53 lk_X11_267 mb_X11_good in_X11_good se_X11_good rfl (c_X11_good) rfl rfl rfl (Nat.le_of_ble_eq_true rfl) (rfl) ?_
        exact r_iret hG dX11_safe_56 (by first | (rw [b2n.mp zh45]; exact ⟨rfl, rfl, rfl, rfl⟩) | (rw [b2z.mp zh45]; exact ⟨rfl, rfl, rfl, rfl⟩))
    · have ha : rsfA V ML A (nI f) y = (-1, 2) := by unfold rsfA; rw [if_pos h1, if_neg h2]
      rw [ha]
      refine Ct_of (by decide) (Nat.le_of_ble_eq_true rfl) (fun G hG => ?_)
      refine r_aload_n 0 rfl dX11_safe_0 ?_
      refine r_iconst (v := 0) rfl dX11_safe_1 ?_
      refine r_puti dX11_safe_2 fl_X11_3 rfl rfl rfl ?_
      refine r_mem hV.symm rfl rfl ?_
      refine r_aload_n 0 rfl dX11_safe_5 ?_
      refine r_iload_n 1 rfl dX11_safe_6 ?_
      refine r_Vf [.int _] dX11_safe_7 lk_X11_344 mb_X11_refuses in_X11_refuses se_X11_refuses rfl (c_X11_refuses) rfl rfl rfl (Nat.le_of_ble_eq_true rfl) (rfl) ?_
      refine r_istore_n (ls2 := [(3, .int (rTr V (nI f))), (0, .ref 124), (1, .int (nI f)), (2, .int y)]) dX11_safe_10 (by decide) rfl ?_
      refine r_iload_n 0 rfl dX11_safe_11 ?_
      refine r_ifne (tgt := 28) dX11_safe_12 (by decide) (fun zh12 => ?_) (fun zh12 => ?_)
      · exact absurd zh12 (fun q => q h1)
      refine r_iload_n 3 rfl dX11_safe_15 ?_
      refine r_iconst (v := 0) rfl dX11_safe_16 ?_
      refine r_sipush (v := 728) rfl dX11_safe_17 ?_
      refine r_Sf [.int _, .int _, .int _] dX11_safe_20 lk_X11_138 mb_X11_in sc_X11_in rfl (c_X11_in) rfl (Nat.le_of_ble_eq_true rfl) (rfl) ?_
      refine r_ifne (tgt := 28) dX11_safe_23 (by decide) (fun zh23 => ?_) (fun zh23 => ?_)
      · exact absurd zh23 (fun q => h2 (b2n.mp q))
      refine r_iconst (v := 2) rfl dX11_safe_26 ?_
      refine r_istore_n (ls2 := [(3, .int 2), (0, .ref 124), (1, .int (nI f)), (2, .int y)]) dX11_safe_27 (by decide) rfl ?_
      refine r_iload_n 0 rfl dX11_safe_28 ?_
      refine r_ifle (tgt := 38) dX11_safe_29 (by decide) (fun zh29 => ?_) (fun zh29 => ?_)
      · exact absurd zh29 (by decide)
      refine r_aload_n 1 rfl dX11_safe_32 ?_
      refine r_iload_n 0 rfl dX11_safe_33 ?_
      refine r_Vf [.int _] dX11_safe_34 lk_X11_251 mb_X11_refused in_X11_refused se_X11_refused rfl (c_X11_refused) rfl rfl rfl (Nat.le_of_ble_eq_true rfl) (rfl) ?_
      exact r_iret hG dX11_safe_37 (⟨rfl, rfl, rfl, rfl⟩)
  · have hp : 0 < rTr V x := rTr_0.resolve_left h1
    have ha : rsfA V ML A x y = (-1, rTr V x) := if_neg h1
    rw [ha]
    refine Ct_of (by decide) (Nat.le_of_ble_eq_true rfl) (fun G hG => ?_)
    refine r_aload_n 0 rfl dX11_safe_0 ?_
    refine r_iconst (v := 0) rfl dX11_safe_1 ?_
    refine r_puti dX11_safe_2 fl_X11_3 rfl rfl rfl ?_
    refine r_mem hV.symm rfl rfl ?_
    refine r_aload_n 0 rfl dX11_safe_5 ?_
    refine r_iload_n 1 rfl dX11_safe_6 ?_
    refine r_Vf [.int _] dX11_safe_7 lk_X11_344 mb_X11_refuses in_X11_refuses se_X11_refuses rfl (c_X11_refuses) rfl rfl rfl (Nat.le_of_ble_eq_true rfl) (rfl) ?_
    refine r_istore_n (ls2 := [(3, .int (rTr V x)), (0, .ref 124), (1, .int x), (2, .int y)]) dX11_safe_10 (by decide) rfl ?_
    refine r_iload_n 0 rfl dX11_safe_11 ?_
    refine r_ifne (tgt := 28) dX11_safe_12 (by decide) (fun zh12 => ?_) (fun zh12 => ?_)
    rotate_left
    · exact absurd zh12 (fun q => h1 q)
    refine r_iload_n 0 rfl dX11_safe_28 ?_
    refine r_ifle (tgt := 38) dX11_safe_29 (by decide) (fun zh29 => ?_) (fun zh29 => ?_)
    · exact absurd zh29 (Int32.not_le.mpr hp)
    refine r_aload_n 1 rfl dX11_safe_32 ?_
    refine r_iload_n 0 rfl dX11_safe_33 ?_
    refine r_Vf [.int _] dX11_safe_34 lk_X11_251 mb_X11_refused in_X11_refused se_X11_refused rfl (c_X11_refused) rfl rfl rfl (Nat.le_of_ble_eq_true rfl) (rfl) ?_
    exact r_iret hG dX11_safe_37 (⟨rfl, rfl, rfl, rfl⟩)
set_option maxRecDepth 100000 in
theorem c_X11_isWithin (hM : x_Lay MR) {sf : Nat → Bool} (hs : ∀ j, j < 729 → MI 142 j = b2 (sf j)) {c : Nat} (hc : c < 729) : Cf X yX11_isWithin cX11_isWithin 3 (some .boolean) 2 [.ref 124, .int (nI c)] n SH MI ML MR (some (.int (b2 (wiR sf (ML 125) c)))) MI ML MR := by
  refine Ct_of (by decide) (Nat.le_of_ble_eq_true rfl) (fun G hG => ?_)
  have loop : ∀ i, i ≤ 729 → (∀ k, k < i → (decide (¬ k = c) && (sf k && decide (ML 125 c &&& (ML 125 k ^^^ -1) = 0))) = false) → RW X G RX11 cX11_isWithin 3 (x_rm 2 0 0) n SH MI ML MR 0 0 2 [(2, .int (nI i)), (0, .ref 124), (1, .int (nI c))] [] := by
    refine bwd (fun i hi ih hk => ?_)
    have hstp : (decide (¬ i = c) && (sf i && decide (ML 125 c &&& (ML 125 i ^^^ -1) = 0))) = false → ∀ k, k < i + 1 → (decide (¬ k = c) && (sf k && decide (ML 125 c &&& (ML 125 k ^^^ -1) = 0))) = false := fun h k hk2 => by
      rcases Nat.lt_or_ge k i with q | q
      · exact hk k q
      · obtain rfl : k = i := by omega
        exact h
    have hie : i = c ↔ nI i = nI c := (nI_eq (by omega) (by omega)).symm
    refine r_iload_n 0 rfl dX11_isWithin_2 ?_
    refine r_sipush (v := 729) rfl dX11_isWithin_3 ?_
    refine r_icmpge (tgt := 40) dX11_isWithin_6 (by decide) (fun zh6 => ?_) (fun zh6 => ?_)
    · have hi9 : i = 729 := by have := geL (k := 729) (by decide) (by omega) zh6; omega
      refine r_iconst (v := 0) rfl dX11_isWithin_40 ?_
      exact r_zret hG dX11_isWithin_41 (rfl) (by
          have zt : wiR sf (ML 125) c = false := List.any_eq_false.mpr (fun k hk2 => by rw [hk k (by rw [hi9]; exact List.mem_range.mp hk2)]; decide)
          rw [zt]; exact ⟨rfl, rfl, rfl, rfl⟩)
    · have hlt : i < 729 := ltL (by omega) zh6
      refine r_iload_n 0 rfl dX11_isWithin_9 ?_
      refine r_iload_n 2 rfl dX11_isWithin_10 ?_
      refine r_icmpeq (tgt := 34) dX11_isWithin_11 (by decide) (fun zh11 => ?_) (fun zh11 => ?_)
      · refine r_iinc (v := (nI (i + 1))) (ls2 := [(2, .int (nI (i + 1))), (0, .ref 124), (1, .int (nI c))]) 0 dX11_isWithin_34 rfl (x_inc i) (by decide) rfl ?_
        refine r_goto (tgt := 2) dX11_isWithin_37 (by decide) ?_
        refine ih hlt (hstp ?_)
        first
          | (have z1 : i = c := hie.mpr zh11
             have z2 : decide (¬ i = c) = false := decide_eq_false (fun z => z z1)
             rw [z2]; rfl)
          | (have z3 : decide (ML 125 c &&& (ML 125 i ^^^ -1) = 0) = false := b2z.mp zh29
             rw [z3, Bool.and_false, Bool.and_false])
          | (rw [nI_clamp (by omega), hs i hlt] at zh20
             have z2 : sf i = false := b2z.mp zh20
             rw [z2, Bool.false_and, Bool.and_false])
      · refine r_aload_n 1 rfl dX11_isWithin_14 ?_
        refine r_getr dX11_isWithin_15 fl_X11_74 rfl (hM _ _ _ rfl) ?_
        refine r_iload_n 0 rfl dX11_isWithin_18 ?_
        refine r_zald dX11_isWithin_19 rfl (vp_in_nI hlt (by decide)) ?_
        refine r_ifeq (tgt := 34) dX11_isWithin_20 (by decide) (fun zh20 => ?_) (fun zh20 => ?_)
        · refine r_iinc (v := (nI (i + 1))) (ls2 := [(2, .int (nI (i + 1))), (0, .ref 124), (1, .int (nI c))]) 0 dX11_isWithin_34 rfl (x_inc i) (by decide) rfl ?_
          refine r_goto (tgt := 2) dX11_isWithin_37 (by decide) ?_
          refine ih hlt (hstp ?_)
          first
            | (have z1 : i = c := hie.mpr zh11
               have z2 : decide (¬ i = c) = false := decide_eq_false (fun z => z z1)
               rw [z2]; rfl)
            | (have z3 : decide (ML 125 c &&& (ML 125 i ^^^ -1) = 0) = false := b2z.mp zh29
               rw [z3, Bool.and_false, Bool.and_false])
            | (rw [nI_clamp (by omega), hs i hlt] at zh20
               have z2 : sf i = false := b2z.mp zh20
               rw [z2, Bool.false_and, Bool.and_false])
        · refine r_aload_n 1 rfl dX11_isWithin_23 ?_
          refine r_iload_n 2 rfl dX11_isWithin_24 ?_
          refine r_iload_n 0 rfl dX11_isWithin_25 ?_
          refine r_Vf [.int _, .int _] dX11_isWithin_26 lk_X11_388 mb_X11_liesIn in_X11_liesIn se_X11_liesIn rfl (c_X11_liesIn hM hc hlt) rfl rfl rfl (Nat.le_of_ble_eq_true rfl) (rfl) ?_
          refine r_ifeq (tgt := 34) dX11_isWithin_29 (by decide) (fun zh29 => ?_) (fun zh29 => ?_)
          · refine r_iinc (v := (nI (i + 1))) (ls2 := [(2, .int (nI (i + 1))), (0, .ref 124), (1, .int (nI c))]) 0 dX11_isWithin_34 rfl (x_inc i) (by decide) rfl ?_
            refine r_goto (tgt := 2) dX11_isWithin_37 (by decide) ?_
            refine ih hlt (hstp ?_)
            first
              | (have z1 : i = c := hie.mpr zh11
                 have z2 : decide (¬ i = c) = false := decide_eq_false (fun z => z z1)
                 rw [z2]; rfl)
              | (have z3 : decide (ML 125 c &&& (ML 125 i ^^^ -1) = 0) = false := b2z.mp zh29
                 rw [z3, Bool.and_false, Bool.and_false])
              | (rw [nI_clamp (by omega), hs i hlt] at zh20
                 have z2 : sf i = false := b2z.mp zh20
                 rw [z2, Bool.false_and, Bool.and_false])
          · refine r_iconst (v := 1) rfl dX11_isWithin_32 ?_
            exact r_zret hG dX11_isWithin_33 (rfl) (by
                rw [nI_clamp (by omega), hs i hlt] at zh20
                have z1 : ¬ i = c := fun z => zh11 (hie.mp z)
                have z2 : sf i = true := b2n.mp zh20
                have z3 : decide (ML 125 c &&& (ML 125 i ^^^ -1) = 0) = true := b2n.mp zh29
                have zt : wiR sf (ML 125) c = true := List.any_eq_true.mpr ⟨i, List.mem_range.mpr hlt, by rw [decide_eq_true z1, z2, z3]; rfl⟩
                rw [zt]; exact ⟨rfl, rfl, rfl, rfl⟩)
  refine r_iconst (v := 0) rfl dX11_isWithin_0 ?_
  refine r_istore_n (ls2 := [(2, .int 0), (0, .ref 124), (1, .int (nI c))]) dX11_isWithin_1 (by decide) rfl ?_
  exact loop 0 (Nat.zero_le _) (fun k hk => absurd hk (Nat.not_lt_zero k))
/-- primesOf: what it changes -/
def rpF (MI W : Mi) (f : Nat) : Prop := (∀ b, b ≠ 140 → b ≠ 142 → b ≠ 143 → b ≠ 144 → W b = MI b) ∧ ∀ g, g < 5 → g ≠ f → W 140 g = MI 140 g ∧ W 143 g = MI 143 g ∧ ∀ i, i < 729 → W 144 (729 * g + i) = MI 144 (729 * g + i)
set_option maxRecDepth 100000 in
theorem c_X11_primesOf (hM : x_Lay MR) {A S f : Nat} (hA : A ≤ 8) (hS : S ≤ 6) (hAr : MI 128 6 = nI A) (hP : okA (arR MI) A S) (hf : f < 5) {pl : Nat → List Nat} (hI : rI pl MI) (hpl : pl f = prQ (fun c => sfP MI ML f c A) (ML 125) 729) (hpb : ∀ g, g < 5 → (pl g).length ≤ 729) : Ct X yX11_primesOf cX11_primesOf 3 none 6 0 0 [.ref 124, .int (nI f)] n SH MI ML MR n SH (fun r0 W B C => r0 = none ∧ B = ML ∧ C = MR ∧ rpF MI W f ∧ rI pl W ∧ W 140 f = 1) := by
  obtain ⟨sf, hsf⟩ : ∃ sf : Nat → Bool, sf = fun c => sfP MI ML f c A := ⟨_, rfl⟩
  rw [← hsf] at hpl
  have cf : (nI f).toNatClampNeg = f := nI_clamp (by omega)
  obtain ⟨M1, hM1⟩ : ∃ M1, M1 = u2 MI 140 f 1 := ⟨_, rfl⟩
  have m1b : ∀ b, b ≠ 140 → M1 b = MI b := fun b h => by rw [hM1]; exact u2_row _ _ h
  obtain ⟨M2, hM2⟩ : ∃ M2, M2 = sfW M1 sf 729 := ⟨_, rfl⟩
  have m2b : ∀ b, b ≠ 142 → M2 b = M1 b := fun b h => by rw [hM2]; exact sr_ne _ _ h
  have m2s : ∀ j, j < 729 → M2 142 j = b2 (sf j) := fun j hj => by
    rw [hM2]
    unfold sfW
    rw [sr_eq, if_pos hj]
  have pwb : ∀ L b, b ≠ 143 → b ≠ 144 → prW M2 f L b = M2 b := fun L b h1 h2 => by unfold prW; rw [u2_row _ _ h1, sr_ne _ _ h2]
  have pwc : ∀ L, prW M2 f L 143 f = nI L.length := fun L => u2_eq _ _ _ _
  have pwr : ∀ L, prW M2 f L 144 = lyN (M2 144) (729 * f) L := fun L => by unfold prW; rw [u2_row _ _ (by decide), sr_eq]
  have hend : rpF MI (prW M2 f (pl f)) f ∧ rI pl (prW M2 f (pl f)) ∧ prW M2 f (pl f) 140 f = 1 := by
    have e140 : ∀ g, prW M2 f (pl f) 140 g = u2 MI 140 f 1 140 g := fun g => by rw [pwb _ 140 (by decide) (by decide), m2b _ (by decide), hM1]
    have e143 : ∀ g, g ≠ f → prW M2 f (pl f) 143 g = MI 143 g := fun g hg => by
      unfold prW
      rw [u2_ne _ _ (by omega), sr_ne _ _ (by decide), m2b _ (by decide), m1b _ (by decide)]
    have e144 : ∀ g, g < 5 → g ≠ f → ∀ i, i < 729 → prW M2 f (pl f) 144 (729 * g + i) = MI 144 (729 * g + i) := fun g hg hne i hi => by
      rw [pwr]
      unfold lyN
      have := hpb f hf
      rw [if_neg (by omega), m2b _ (by decide), m1b _ (by decide)]
    have eb : ∀ b, b ≠ 140 → b ≠ 142 → b ≠ 143 → b ≠ 144 → prW M2 f (pl f) b = MI b := fun b h1 h2 h3 h4 => by rw [pwb _ b h3 h4, m2b b h2, m1b b h1]
    refine ⟨⟨eb, fun g hg hne => ⟨by rw [e140, u2_ne _ _ (by omega)], e143 g hne, e144 g hg hne⟩⟩, fun g hg => ?_, by rw [e140]; exact u2_eq _ _ _ _⟩
    have i1 := hI g hg
    by_cases hgf : g = f
    · subst hgf
      refine Or.inr ⟨by rw [e140]; exact u2_eq _ _ _ _, pwc _, fun i hi => ?_⟩
      rw [pwr]
      unfold lyN
      rw [if_pos (by omega), show 729 * g + i - 729 * g = i by omega]
    · rcases i1 with z | ⟨z1, z2, z3⟩
      · exact Or.inl (by rw [e140, u2_ne _ _ (by omega)]; exact z)
      · exact Or.inr ⟨by rw [e140, u2_ne _ _ (by omega)]; exact z1, by rw [e143 g hgf]; exact z2, fun i hi => by rw [e144 g hg hgf i (by have := hpb g hg; omega)]; exact z3 i hi⟩
  refine Ct_of (by decide) (Nat.le_of_ble_eq_true rfl) (fun G hG => ?_)
  have l2 : ∀ c, c ≤ 729 → RW X G RX11 cX11_primesOf 3 (x_rm 6 0 0) n SH (prW M2 f (prQ sf (ML 125) c)) ML MR 0 0 53 [(2, .int (nI c)), (0, .ref 124), (1, .int (nI f))] [] := by
    refine bwd (fun c hc ih => ?_)
    have hlen := prQ_len sf (ML 125) c
    have hs2 : ∀ j, j < 729 → prW M2 f (prQ sf (ML 125) c) 142 j = b2 (sf j) := fun j hj => by rw [pwb _ 142 (by decide) (by decide)]; exact m2s j hj
    have eix : (729 : Int32) * nI f + nI (prQ sf (ML 125) c).length = nI (729 * f + (prQ sf (ML 125) c).length) := by
      have h1 := pk_mul 729 f
      have h2 := nI_add (729 * f) (prQ sf (ML 125) c).length
      rw [← h1] at h2
      exact h2
    refine r_iload_n 0 rfl dX11_primesOf_53 ?_
    refine r_sipush (v := 729) rfl dX11_primesOf_54 ?_
    refine r_icmpge (tgt := 114) dX11_primesOf_57 (by decide) (fun zh57 => ?_) (fun zh57 => ?_)
    · obtain rfl : c = 729 := by have := geL (k := 729) (by decide) (by omega) zh57; omega
      exact r_vret hG dX11_primesOf_114 (by rw [← hpl]; exact ⟨rfl, rfl, rfl, hend⟩)
    · have hlt : c < 729 := ltL (by omega) zh57
      have zq := ih hlt
      rw [prQ_s] at zq
      refine r_aload_n 1 rfl dX11_primesOf_60 ?_
      refine r_getr dX11_primesOf_61 fl_X11_74 rfl (hM _ _ _ rfl) ?_
      refine r_iload_n 0 rfl dX11_primesOf_64 ?_
      refine r_zald dX11_primesOf_65 rfl (vp_in_nI hlt (by decide)) ?_
      refine r_ifeq (tgt := 108) dX11_primesOf_66 (by decide) (fun zh66 => ?_) (fun zh66 => ?_)
      · try rw [nI_clamp (by omega), hs2 c hlt] at zh66
        refine r_iinc (v := (nI (c + 1))) (ls2 := [(2, .int (nI (c + 1))), (0, .ref 124), (1, .int (nI f))]) 0 dX11_primesOf_108 rfl (x_inc c) (by decide) rfl ?_
        refine r_goto (tgt := 53) dX11_primesOf_111 (by decide) ?_
        first
          | (have z1 : sf c = true := b2n.mp zh66
             have z2 : wiR sf (ML 125) c = true := b2n.mp zh74
             rw [z1, z2, if_neg (by decide)] at zq
             exact zq)
          | (have z1 : sf c = false := b2z.mp zh66
             rw [z1, Bool.false_and, if_neg (by decide)] at zq
             exact zq)
          | (have z1 : sf c = true := b2n.mp zh66
             have z2 : wiR sf (ML 125) c = false := b2z.mp zh74
             rw [z1, z2, if_pos (by decide)] at zq
             refine r_mem ?_ rfl rfl zq
             rw [cf, pwc, eix, nI_clamp (by omega)]
             have e1 : u2 (prW M2 f (prQ sf (ML 125) c)) 144 (729 * f + (prQ sf (ML 125) c).length) (nI c) 143 f = nI (prQ sf (ML 125) c).length := by rw [u2_row _ _ (by decide), pwc]
             rw [e1, nI_1]
             unfold prW
             rw [← lyN_app, List.length_append]
             show _ = u2 (sr M2 144 (up (lyN (M2 144) (729 * f) (prQ sf (ML 125) c)) (729 * f + (prQ sf (ML 125) c).length) (nI c))) 143 f (nI ((prQ sf (ML 125) c).length + 1))
             generalize 729 * f + (prQ sf (ML 125) c).length = o
             generalize lyN (M2 144) (729 * f) (prQ sf (ML 125) c) = rr
             funext b j
             simp only [u2, sr, up]
             grind)
      · rw [nI_clamp (by omega), hs2 c hlt] at zh66
        refine r_aload_n 1 rfl dX11_primesOf_69 ?_
        refine r_iload_n 0 rfl dX11_primesOf_70 ?_
        refine r_Vf [.int _] dX11_primesOf_71 lk_X11_385 mb_X11_isWithin in_X11_isWithin se_X11_isWithin rfl (c_X11_isWithin hM hs2 hlt) rfl rfl rfl (Nat.le_of_ble_eq_true rfl) (rfl) ?_
        refine r_ifeq (tgt := 80) dX11_primesOf_74 (by decide) (fun zh74 => ?_) (fun zh74 => ?_)
        · refine r_aload_n 1 rfl dX11_primesOf_80 ?_
          refine r_getr dX11_primesOf_81 fl_X11_80 rfl (hM _ _ _ rfl) ?_
          refine r_sipush (v := 729) rfl dX11_primesOf_84 ?_
          refine r_iload_n 2 rfl dX11_primesOf_87 ?_
          refine r_imul dX11_primesOf_88 ?_
          refine r_aload_n 1 rfl dX11_primesOf_89 ?_
          refine r_getr dX11_primesOf_90 fl_X11_77 rfl (hM _ _ _ rfl) ?_
          refine r_iload_n 2 rfl dX11_primesOf_93 ?_
          refine r_iald dX11_primesOf_94 rfl (vp_in_nI hf (by decide)) ?_
          refine r_iadd dX11_primesOf_95 ?_
          refine r_iload_n 0 rfl dX11_primesOf_96 ?_
          refine r_iast dX11_primesOf_97 rfl (by rw [cf, pwc, eix]; exact vp_in_nI (show 729 * f + (prQ sf (ML 125) c).length < 3645 by omega) (by decide)) ?_
          refine r_aload_n 1 rfl dX11_primesOf_98 ?_
          refine r_getr dX11_primesOf_99 fl_X11_77 rfl (hM _ _ _ rfl) ?_
          refine r_iload_n 2 rfl dX11_primesOf_102 ?_
          refine r_dup2 rfl rfl dX11_primesOf_103 ?_
          refine r_iald dX11_primesOf_104 rfl (vp_in_nI hf (by decide)) ?_
          refine r_iconst (v := 1) rfl dX11_primesOf_105 ?_
          refine r_iadd dX11_primesOf_106 ?_
          refine r_iast dX11_primesOf_107 rfl (vp_in_nI hf (by decide)) ?_
          try rw [nI_clamp (by omega), hs2 c hlt] at zh66
          refine r_iinc (v := (nI (c + 1))) (ls2 := [(2, .int (nI (c + 1))), (0, .ref 124), (1, .int (nI f))]) 0 dX11_primesOf_108 rfl (x_inc c) (by decide) rfl ?_
          refine r_goto (tgt := 53) dX11_primesOf_111 (by decide) ?_
          first
            | (have z1 : sf c = true := b2n.mp zh66
               have z2 : wiR sf (ML 125) c = true := b2n.mp zh74
               rw [z1, z2, if_neg (by decide)] at zq
               exact zq)
            | (have z1 : sf c = false := b2z.mp zh66
               rw [z1, Bool.false_and, if_neg (by decide)] at zq
               exact zq)
            | (have z1 : sf c = true := b2n.mp zh66
               have z2 : wiR sf (ML 125) c = false := b2z.mp zh74
               rw [z1, z2, if_pos (by decide)] at zq
               refine r_mem ?_ rfl rfl zq
               rw [cf, pwc, eix, nI_clamp (by omega)]
               have e1 : u2 (prW M2 f (prQ sf (ML 125) c)) 144 (729 * f + (prQ sf (ML 125) c).length) (nI c) 143 f = nI (prQ sf (ML 125) c).length := by rw [u2_row _ _ (by decide), pwc]
               rw [e1, nI_1]
               unfold prW
               rw [← lyN_app, List.length_append]
               show _ = u2 (sr M2 144 (up (lyN (M2 144) (729 * f) (prQ sf (ML 125) c)) (729 * f + (prQ sf (ML 125) c).length) (nI c))) 143 f (nI ((prQ sf (ML 125) c).length + 1))
               generalize 729 * f + (prQ sf (ML 125) c).length = o
               generalize lyN (M2 144) (729 * f) (prQ sf (ML 125) c) = rr
               funext b j
               simp only [u2, sr, up]
               grind)
        · refine r_goto (tgt := 108) dX11_primesOf_77 (by decide) ?_
          try rw [nI_clamp (by omega), hs2 c hlt] at zh66
          refine r_iinc (v := (nI (c + 1))) (ls2 := [(2, .int (nI (c + 1))), (0, .ref 124), (1, .int (nI f))]) 0 dX11_primesOf_108 rfl (x_inc c) (by decide) rfl ?_
          refine r_goto (tgt := 53) dX11_primesOf_111 (by decide) ?_
          first
            | (have z1 : sf c = true := b2n.mp zh66
               have z2 : wiR sf (ML 125) c = true := b2n.mp zh74
               rw [z1, z2, if_neg (by decide)] at zq
               exact zq)
            | (have z1 : sf c = false := b2z.mp zh66
               rw [z1, Bool.false_and, if_neg (by decide)] at zq
               exact zq)
            | (have z1 : sf c = true := b2n.mp zh66
               have z2 : wiR sf (ML 125) c = false := b2z.mp zh74
               rw [z1, z2, if_pos (by decide)] at zq
               refine r_mem ?_ rfl rfl zq
               rw [cf, pwc, eix, nI_clamp (by omega)]
               have e1 : u2 (prW M2 f (prQ sf (ML 125) c)) 144 (729 * f + (prQ sf (ML 125) c).length) (nI c) 143 f = nI (prQ sf (ML 125) c).length := by rw [u2_row _ _ (by decide), pwc]
               rw [e1, nI_1]
               unfold prW
               rw [← lyN_app, List.length_append]
               show _ = u2 (sr M2 144 (up (lyN (M2 144) (729 * f) (prQ sf (ML 125) c)) (729 * f + (prQ sf (ML 125) c).length) (nI c))) 143 f (nI ((prQ sf (ML 125) c).length + 1))
               generalize 729 * f + (prQ sf (ML 125) c).length = o
               generalize lyN (M2 144) (729 * f) (prQ sf (ML 125) c) = rr
               funext b j
               simp only [u2, sr, up]
               grind)
  have l1 : ∀ c, c ≤ 729 → RW X G RX11 cX11_primesOf 3 (x_rm 6 0 0) n SH (sfW M1 sf c) ML MR 0 0 19 [(2, .int (nI c)), (0, .ref 124), (1, .int (nI f))] [] := by
    refine bwd (fun c hc ih => ?_)
    have hAw : sfW M1 sf c 128 6 = nI A := by rw [← hAr, ← m1b 128 (by decide)]; rfl
    have hPw : okA (arR (sfW M1 sf c)) A S := by
      have : arR (sfW M1 sf c) = arR MI := by
        funext i j
        show sfW M1 sf c 128 _ = _
        unfold sfW
        rw [sr_ne _ _ (by decide), m1b _ (by decide)]
      rw [this]
      exact hP
    have hsw : sfP (sfW M1 sf c) ML f c A = sf c := by rw [hsf, hM1]; rfl
    have e0 : prW M2 f [] = u2 M2 143 f 0 := by unfold prW; rw [lyN_nil, sr_id]; rfl
    refine r_iload_n 0 rfl dX11_primesOf_19 ?_
    refine r_sipush (v := 729) rfl dX11_primesOf_20 ?_
    refine r_icmpge (tgt := 44) dX11_primesOf_23 (by decide) (fun zh23 => ?_) (fun zh23 => ?_)
    · obtain rfl : c = 729 := by have := geL (k := 729) (by decide) (by omega) zh23; omega
      refine r_mem hM2.symm rfl rfl ?_
      refine r_aload_n 1 rfl dX11_primesOf_44 ?_
      refine r_getr dX11_primesOf_45 fl_X11_77 rfl (hM _ _ _ rfl) ?_
      refine r_iload_n 2 rfl dX11_primesOf_48 ?_
      refine r_iconst (v := 0) rfl dX11_primesOf_49 ?_
      refine r_iast dX11_primesOf_50 rfl (vp_in_nI hf (by decide)) ?_
      refine r_iconst (v := 0) rfl dX11_primesOf_51 ?_
      refine r_istore_n (ls2 := [(2, .int 0), (0, .ref 124), (1, .int (nI f))]) dX11_primesOf_52 (by decide) rfl ?_
      refine r_mem ?_ rfl rfl (l2 0 (Nat.zero_le _))
      rw [cf, show prQ sf (ML 125) 0 = [] from rfl, e0]
    · have hlt : c < 729 := ltL (by omega) zh23
      refine r_aload_n 1 rfl dX11_primesOf_26 ?_
      refine r_getr dX11_primesOf_27 fl_X11_74 rfl (hM _ _ _ rfl) ?_
      refine r_iload_n 0 rfl dX11_primesOf_30 ?_
      refine r_aload_n 1 rfl dX11_primesOf_31 ?_
      refine r_iload_n 2 rfl dX11_primesOf_32 ?_
      refine r_iload_n 0 rfl dX11_primesOf_33 ?_
      refine r_Vf [.int _, .int _] dX11_primesOf_34 lk_X11_382 mb_X11_isSafe in_X11_isSafe se_X11_isSafe rfl (c_X11_isSafe hM hA hS hAw hPw hf hlt) rfl rfl rfl (Nat.le_of_ble_eq_true rfl) (rfl) ?_
      refine r_zast dX11_primesOf_37 rfl (vp_in_nI hlt (by decide)) ?_
      refine r_iinc (v := (nI (c + 1))) (ls2 := [(2, .int (nI (c + 1))), (0, .ref 124), (1, .int (nI f))]) 0 dX11_primesOf_38 rfl (x_inc c) (by decide) rfl ?_
      refine r_goto (tgt := 19) dX11_primesOf_41 (by decide) ?_
      refine r_mem ?_ rfl rfl (ih hlt)
      rw [hsw, nI_clamp (by omega), show vp_nar .boolean (b2 (sf c)) = b2 (sf c) from by cases sf c <;> rfl]
      funext b j
      simp only [u2, sr, sfW]
      grind
  refine r_aload_n 0 rfl dX11_primesOf_0 ?_
  refine r_getr dX11_primesOf_1 fl_X11_68 rfl (hM _ _ _ rfl) ?_
  refine r_iload_n 1 rfl dX11_primesOf_4 ?_
  refine r_zald dX11_primesOf_5 rfl (vp_in_nI hf (by decide)) ?_
  refine r_ifeq (tgt := 10) dX11_primesOf_6 (by decide) (fun zh6 => ?_) (fun zh6 => ?_)
  · refine r_aload_n 0 rfl dX11_primesOf_10 ?_
    refine r_getr dX11_primesOf_11 fl_X11_68 rfl (hM _ _ _ rfl) ?_
    refine r_iload_n 1 rfl dX11_primesOf_14 ?_
    refine r_iconst (v := 1) rfl dX11_primesOf_15 ?_
    refine r_zast dX11_primesOf_16 rfl (vp_in_nI hf (by decide)) ?_
    refine r_iconst (v := 0) rfl dX11_primesOf_17 ?_
    refine r_istore_n (ls2 := [(2, .int 0), (0, .ref 124), (1, .int (nI f))]) dX11_primesOf_18 (by decide) rfl ?_
    refine r_mem ?_ rfl rfl (l1 0 (Nat.zero_le _))
    rw [cf, show vp_nar .boolean 1 = 1 from rfl, ← hM1]
    unfold sfW
    have e : (fun j => if j < 0 then b2 (sf j) else M1 142 j) = M1 142 := by
      funext j
      rw [if_neg (Nat.not_lt_zero j)]
    rw [e, sr_id]
  · exact r_vret hG dX11_primesOf_9 (by
        rw [cf] at zh6
        have z1 : MI 140 f = 1 := (hI f hf).elim (fun z => absurd z zh6) (fun z => z.1)
        exact ⟨rfl, rfl, rfl, ⟨fun b _ _ _ _ => rfl, fun g _ _ => ⟨rfl, rfl, fun i _ => rfl⟩⟩, hI, z1⟩)
end rprimes

/-! the desk's small helpers; x in 0 .. hi - 1 as the code asks it -/
def inR (x hi : Int32) : Bool := decide (¬ x < 0 ∧ ¬ hi ≤ x)
theorem inR_t {x hi : Int32} : inR x hi = true ↔ ¬ x < 0 ∧ ¬ hi ≤ x := by unfold inR; simp only [decide_eq_true_eq]
theorem vpin_of {x : Int32} {N : Nat} (hN : N < 2 ^ 31) (h1 : ¬ x < 0) (h2 : ¬ nI N ≤ x) : vp_in x N := by
  rcases pk_ix x hN with h | h | ⟨j, hj, rfl⟩
  · exact absurd h h1
  · exact absurd h h2
  · exact vp_in_nI hj hN
theorem inR_ex {x : Int32} {N : Nat} (hN : N < 2 ^ 31) (h1 : ¬ x < 0) (h2 : ¬ nI N ≤ x) : ∃ j, j < N ∧ x = nI j := by
  rcases pk_ix x hN with h | h | h
  · exact absurd h h1
  · exact absurd h h2
  · exact h
theorem inR_nI {i N : Nat} (hi : i < N) (hN : N < 2 ^ 31) : inR (nI i) (nI N) = true := inR_t.mpr ⟨nI_pos (Nat.lt_trans hi hN), fun h => absurd ((nI_leI hN (Nat.lt_trans hi hN)).mp h) (Nat.not_le.mpr hi)⟩
theorem inR_lt {i N : Nat} (hi : i < 2 ^ 31) (h : inR (nI i) (nI N) = true) (hN : N < 2 ^ 31) : i < N := by
  rcases Nat.lt_or_ge i N with q | q
  · exact q
  · exact absurd (nI_le q hi) (inR_t.mp h).2
/-- a row with place i set -/
def sr {α : Type} (M : Nat → Nat → α) (a : Nat) (f : Nat → α) : Nat → Nat → α := fun b i => if b = a then f i else M b i
theorem sr_eq {α : Type} (M : Nat → Nat → α) (a : Nat) (f : Nat → α) : sr M a f a = f := funext fun _ => if_pos rfl
theorem sr_ne {α : Type} (M : Nat → Nat → α) {a b : Nat} (f : Nat → α) (h : b ≠ a) : sr M a f b = M b := funext fun _ => if_neg h
theorem sr_id {α : Type} (M : Nat → Nat → α) (a : Nat) : sr M a (M a) = M := by
  funext b i
  by_cases h : b = a
  · subst h; simp [sr]
  · simp [sr, h]
theorem sr_sr {α : Type} (M : Nat → Nat → α) (a : Nat) (f g : Nat → α) : sr (sr M a f) a g = sr M a g := by
  funext b i
  by_cases h : b = a <;> simp [sr, h]
def up {α : Type} (f : Nat → α) (k : Nat) (x : α) : Nat → α := fun j => if j = k then x else f j
theorem u2_sr {α : Type} (M : Nat → Nat → α) (a j : Nat) (x : α) : u2 M a j x = sr M a (up (M a) j x) := by
  funext b i
  by_cases h : b = a
  · subst h
    by_cases h2 : i = j <;> simp [u2, sr, up, h2]
  · simp [u2, sr, h]
def pickV (f : Nat → Int32) (N : Nat) (x : Int32) : Int32 := if ¬ x < 0 ∧ ¬ nI N ≤ x then f x.toNatClampNeg else 0
theorem pickV_nI (f : Nat → Int32) {N i : Nat} (hi : i < N) (hN : N < 2 ^ 31) : pickV f N (nI i) = f i := by
  unfold pickV
  have h := inR_t.mp (inR_nI hi hN)
  rw [if_pos h, nI_clamp (Nat.lt_trans hi hN)]
section base
variable {X : xG} {n : Nat} {MI : Nat → Nat → Int32} {ML : Nat → Nat → Int64} {MR : Nat → Nat → Option Nat}
set_option maxRecDepth 100000 in
theorem c_X10_told {x : Int32} : Cf X yX10_told cX10_told 2 (some .int) 1 [.ref 0, .int x] n SH MI ML MR (some (.int x)) (u2 MI 0 8 0) ML MR := by
  refine Ct_of (by decide) (Nat.le_of_ble_eq_true rfl) (fun G hG => ?_)
  refine r_aload_n 0 rfl dX10_told_0 ?_
  refine r_iconst (v := 0) rfl dX10_told_1 ?_
  refine r_puti dX10_told_2 fl_X10_118 rfl rfl rfl ?_
  refine r_iload_n 1 rfl dX10_told_5 ?_
  exact r_iret hG dX10_told_6 (⟨rfl, rfl, rfl, rfl⟩)
set_option maxRecDepth 100000 in
theorem c_X10_refuse {x : Int32} : Cf X yX10_refuse cX10_refuse 2 (some .int) 1 [.ref 0, .int x] n SH MI ML MR (some (.int (-1))) (u2 MI 0 8 x) ML MR := by
  refine Ct_of (by decide) (Nat.le_of_ble_eq_true rfl) (fun G hG => ?_)
  refine r_aload_n 0 rfl dX10_refuse_0 ?_
  refine r_iload_n 1 rfl dX10_refuse_1 ?_
  refine r_puti dX10_refuse_2 fl_X10_118 rfl rfl rfl ?_
  refine r_iconst (v := (-1)) rfl dX10_refuse_5 ?_
  exact r_iret hG dX10_refuse_6 (⟨rfl, rfl, rfl, rfl⟩)
set_option maxRecDepth 100000 in
theorem c_X10_isFunction {x : Int32} : Cf X yX10_isFunction cX10_isFunction 1 (some .boolean) 1 [.int x] n SH MI ML MR (some (.int (if inR x 5 then 1 else 0))) MI ML MR := by
  refine Ct_of (by decide) (Nat.le_of_ble_eq_true rfl) (fun G hG => ?_)
  refine r_iload_n 0 rfl dX10_isFunction_0 ?_
  refine r_iflt (tgt := 13) dX10_isFunction_1 (by decide) (fun zh1 => ?_) (fun zh1 => ?_)
  · refine r_iconst (v := 0) rfl dX10_isFunction_13 ?_
    exact r_zret hG dX10_isFunction_14 (rfl) (⟨by simp_all [inR], rfl, rfl, rfl⟩)
  · refine r_iload_n 0 rfl dX10_isFunction_4 ?_
    refine r_iconst (v := 5) rfl dX10_isFunction_5 ?_
    refine r_icmpge (tgt := 13) dX10_isFunction_6 (by decide) (fun zh6 => ?_) (fun zh6 => ?_)
    · refine r_iconst (v := 0) rfl dX10_isFunction_13 ?_
      exact r_zret hG dX10_isFunction_14 (rfl) (⟨by simp_all [inR], rfl, rfl, rfl⟩)
    · refine r_iconst (v := 1) rfl dX10_isFunction_9 ?_
      refine r_goto (tgt := 14) dX10_isFunction_10 (by decide) ?_
      exact r_zret hG dX10_isFunction_14 (rfl) (⟨by simp_all [inR], rfl, rfl, rfl⟩)
set_option maxRecDepth 100000 in
theorem c_X10_isCube {x : Int32} : Cf X yX10_isCube cX10_isCube 1 (some .boolean) 1 [.int x] n SH MI ML MR (some (.int (if inR x 729 then 1 else 0))) MI ML MR := by
  refine Ct_of (by decide) (Nat.le_of_ble_eq_true rfl) (fun G hG => ?_)
  refine r_iload_n 0 rfl dX10_isCube_0 ?_
  refine r_iflt (tgt := 15) dX10_isCube_1 (by decide) (fun zh1 => ?_) (fun zh1 => ?_)
  · refine r_iconst (v := 0) rfl dX10_isCube_15 ?_
    exact r_zret hG dX10_isCube_16 (rfl) (⟨by simp_all [inR], rfl, rfl, rfl⟩)
  · refine r_iload_n 0 rfl dX10_isCube_4 ?_
    refine r_sipush (v := 729) rfl dX10_isCube_5 ?_
    refine r_icmpge (tgt := 15) dX10_isCube_8 (by decide) (fun zh8 => ?_) (fun zh8 => ?_)
    · refine r_iconst (v := 0) rfl dX10_isCube_15 ?_
      exact r_zret hG dX10_isCube_16 (rfl) (⟨by simp_all [inR], rfl, rfl, rfl⟩)
    · refine r_iconst (v := 1) rfl dX10_isCube_11 ?_
      refine r_goto (tgt := 16) dX10_isCube_12 (by decide) ?_
      exact r_zret hG dX10_isCube_16 (rfl) (⟨by simp_all [inR], rfl, rfl, rfl⟩)
set_option maxRecDepth 100000 in
theorem c_X10_hasArc (hM : x_Lay MR) {x : Int32} : Cf X yX10_hasArc cX10_hasArc 2 (some .boolean) 1 [.ref 0, .int x] n SH MI ML MR (some (.int (if inR x (MI 1 6) then 1 else 0))) MI ML MR := by
  refine Ct_of (by decide) (Nat.le_of_ble_eq_true rfl) (fun G hG => ?_)
  refine r_iload_n 1 rfl dX10_hasArc_0 ?_
  refine r_iflt (tgt := 19) dX10_hasArc_1 (by decide) (fun zh1 => ?_) (fun zh1 => ?_)
  · refine r_iconst (v := 0) rfl dX10_hasArc_19 ?_
    exact r_zret hG dX10_hasArc_20 (rfl) (⟨by simp_all [inR], rfl, rfl, rfl⟩)
  · refine r_iload_n 1 rfl dX10_hasArc_4 ?_
    refine r_aload_n 0 rfl dX10_hasArc_5 ?_
    refine r_getr dX10_hasArc_6 fl_X10_10 rfl (hM _ _ _ rfl) ?_
    refine r_geti dX10_hasArc_9 fl_X10_112 rfl ?_
    refine r_icmpge (tgt := 19) dX10_hasArc_12 (by decide) (fun zh12 => ?_) (fun zh12 => ?_)
    · refine r_iconst (v := 0) rfl dX10_hasArc_19 ?_
      exact r_zret hG dX10_hasArc_20 (rfl) (⟨by simp_all [inR], rfl, rfl, rfl⟩)
    · refine r_iconst (v := 1) rfl dX10_hasArc_15 ?_
      refine r_goto (tgt := 20) dX10_hasArc_16 (by decide) ?_
      exact r_zret hG dX10_hasArc_20 (rfl) (⟨by simp_all [inR], rfl, rfl, rfl⟩)
def machTr (MI : Nat → Nat → Int32) : Int32 := if MI 1 0 = 0 then 1 else if MI 43 6 = 0 then 0 else 5
set_option maxRecDepth 100000 in
theorem c_X10_machineTrouble (hM : x_Lay MR) : Cf X yX10_machineTrouble cX10_machineTrouble 1 (some .int) 1 [.ref 0] n SH MI ML MR (some (.int (machTr MI))) MI ML MR := by
  refine Ct_of (by decide) (Nat.le_of_ble_eq_true rfl) (fun G hG => ?_)
  refine r_aload_n 0 rfl dX10_machineTrouble_0 ?_
  refine r_getr dX10_machineTrouble_1 fl_X10_10 rfl (hM _ _ _ rfl) ?_
  refine r_geti dX10_machineTrouble_4 fl_X10_124 rfl ?_
  refine r_ifne (tgt := 12) dX10_machineTrouble_7 (by decide) (fun zh7 => ?_) (fun zh7 => ?_)
  · refine r_aload_n 0 rfl dX10_machineTrouble_12 ?_
    refine r_getr dX10_machineTrouble_13 fl_X10_35 rfl (hM _ _ _ rfl) ?_
    refine r_geti dX10_machineTrouble_16 fl_X10_127 rfl ?_
    refine r_ifne (tgt := 26) dX10_machineTrouble_19 (by decide) (fun zh19 => ?_) (fun zh19 => ?_)
    · refine r_iconst (v := 5) rfl dX10_machineTrouble_26 ?_
      exact r_iret hG dX10_machineTrouble_27 (⟨by simp_all [machTr], rfl, rfl, rfl⟩)
    · refine r_iconst (v := 0) rfl dX10_machineTrouble_22 ?_
      refine r_goto (tgt := 27) dX10_machineTrouble_23 (by decide) ?_
      exact r_iret hG dX10_machineTrouble_27 (⟨by simp_all [machTr], rfl, rfl, rfl⟩)
  · refine r_iconst (v := 1) rfl dX10_machineTrouble_10 ?_
    exact r_iret hG dX10_machineTrouble_11 (⟨by simp_all [machTr], rfl, rfl, rfl⟩)
def funTr (MI : Nat → Nat → Int32) (x : Int32) : Int32 := if inR x 5 then machTr MI else 1
set_option maxRecDepth 100000 in
theorem c_X10_functionTrouble (hM : x_Lay MR) {x : Int32} : Cf X yX10_functionTrouble cX10_functionTrouble 2 (some .int) 2 [.ref 0, .int x] n SH MI ML MR (some (.int (funTr MI x))) MI ML MR := by
  refine Ct_of (by decide) (Nat.le_of_ble_eq_true rfl) (fun G hG => ?_)
  refine r_iload_n 1 rfl dX10_functionTrouble_0 ?_
  refine r_Sf [.int _] dX10_functionTrouble_1 lk_X10_247 mb_X10_isFunction sc_X10_isFunction rfl (c_X10_isFunction) rfl (Nat.le_of_ble_eq_true rfl) (rfl) ?_
  refine r_ifeq (tgt := 14) dX10_functionTrouble_4 (by decide) (fun zh4 => ?_) (fun zh4 => ?_)
  · refine r_iconst (v := 1) rfl dX10_functionTrouble_14 ?_
    exact r_iret hG dX10_functionTrouble_15 (⟨by simp_all [funTr], rfl, rfl, rfl⟩)
  · refine r_aload_n 0 rfl dX10_functionTrouble_7 ?_
    refine r_Vf [] dX10_functionTrouble_8 lk_X10_267 mb_X10_machineTrouble in_X10_machineTrouble se_X10_machineTrouble rfl (c_X10_machineTrouble hM) rfl rfl rfl (Nat.le_of_ble_eq_true rfl) (rfl) ?_
    refine r_goto (tgt := 15) dX10_functionTrouble_11 (by decide) ?_
    exact r_iret hG dX10_functionTrouble_15 (⟨by simp_all [funTr], rfl, rfl, rfl⟩)
set_option maxRecDepth 100000 in
theorem c_X10_pick {a N : Nat} {x : Int32} (hs : SH[a]? = some (13, N)) (hN : N < 2 ^ 31) : Cf X yX10_pick cX10_pick 2 (some .int) 1 [.ref a, .int x] n SH MI ML MR (some (.int (pickV (MI a) N x))) MI ML MR := by
  refine Ct_of (by decide) (Nat.le_of_ble_eq_true rfl) (fun G hG => ?_)
  refine r_iload_n 1 rfl dX10_pick_0 ?_
  refine r_iflt (tgt := 16) dX10_pick_1 (by decide) (fun zh1 => ?_) (fun zh1 => ?_)
  · refine r_iconst (v := 0) rfl dX10_pick_16 ?_
    exact r_iret hG dX10_pick_17 (⟨by simp_all [pickV], rfl, rfl, rfl⟩)
  · refine r_iload_n 1 rfl dX10_pick_4 ?_
    refine r_aload_n 0 rfl dX10_pick_5 ?_
    refine r_alen (v := (nI N)) dX10_pick_6 hs (by decide) rfl ?_
    refine r_icmpge (tgt := 16) dX10_pick_7 (by decide) (fun zh7 => ?_) (fun zh7 => ?_)
    · refine r_iconst (v := 0) rfl dX10_pick_16 ?_
      exact r_iret hG dX10_pick_17 (⟨by simp_all [pickV], rfl, rfl, rfl⟩)
    · refine r_aload_n 0 rfl dX10_pick_10 ?_
      refine r_iload_n 1 rfl dX10_pick_11 ?_
      refine r_iald dX10_pick_12 hs (vpin_of hN zh1 zh7) ?_
      refine r_goto (tgt := 17) dX10_pick_13 (by decide) ?_
      exact r_iret hG dX10_pick_17 (⟨by simp_all [pickV], rfl, rfl, rfl⟩)
def placeM (MI : Nat → Nat → Int32) (a N : Nat) (x v : Int32) : Nat → Nat → Int32 := if ¬ x < 0 ∧ ¬ nI N ≤ x then u2 MI a x.toNatClampNeg v else MI
set_option maxRecDepth 100000 in
theorem c_X10_place {a N : Nat} {x v : Int32} (hs : SH[a]? = some (13, N)) (hN : N < 2 ^ 31) : Cf X yX10_place cX10_place 3 none 1 [.ref a, .int x, .int v] n SH MI ML MR none (placeM MI a N x v) ML MR := by
  refine Ct_of (by decide) (Nat.le_of_ble_eq_true rfl) (fun G hG => ?_)
  refine r_iload_n 1 rfl dX10_place_0 ?_
  refine r_iflt (tgt := 14) dX10_place_1 (by decide) (fun zh1 => ?_) (fun zh1 => ?_)
  · exact r_vret hG dX10_place_14 (⟨rfl, by simp_all [placeM], rfl, rfl⟩)
  · refine r_iload_n 1 rfl dX10_place_4 ?_
    refine r_aload_n 0 rfl dX10_place_5 ?_
    refine r_alen (v := (nI N)) dX10_place_6 hs (by decide) rfl ?_
    refine r_icmpge (tgt := 14) dX10_place_7 (by decide) (fun zh7 => ?_) (fun zh7 => ?_)
    · exact r_vret hG dX10_place_14 (⟨rfl, by simp_all [placeM], rfl, rfl⟩)
    · refine r_aload_n 0 rfl dX10_place_10 ?_
      refine r_iload_n 1 rfl dX10_place_11 ?_
      refine r_iload_n 2 rfl dX10_place_12 ?_
      refine r_iast dX10_place_13 hs (vpin_of hN zh1 zh7) ?_
      exact r_vret hG dX10_place_14 (⟨rfl, by simp_all [placeM], rfl, rfl⟩)
def prodV (g k : Int64) : Int32 := if g &&& k = 0 then 0 else if k &&& (g ^^^ -1) = 0 then 1 else 2
set_option maxRecDepth 100000 in
theorem c_X10_product {x y : Int64} : Cf X yX10_product cX10_product 4 (some .int) 1 [.long x, .long y] n SH MI ML MR (some (.int (prodV x y))) MI ML MR := by
  refine Ct_of (by decide) (Nat.le_of_ble_eq_true rfl) (fun G hG => ?_)
  refine r_lload_n 0 rfl dX10_product_0 ?_
  refine r_lload_n 1 rfl dX10_product_1 ?_
  refine r_land dX10_product_2 ?_
  refine r_lconst (v := 0) rfl dX10_product_3 ?_
  refine r_lcmp dX10_product_4 ?_
  refine r_ifne (tgt := 10) dX10_product_5 (by decide) (fun zh5 => ?_) (fun zh5 => ?_)
  · refine r_lload_n 1 rfl dX10_product_10 ?_
    refine r_lload_n 0 rfl dX10_product_11 ?_
    refine r_ldc2 kl_X10_365 dX10_product_12 ?_
    refine r_lxor dX10_product_15 ?_
    refine r_land dX10_product_16 ?_
    refine r_lconst (v := 0) rfl dX10_product_17 ?_
    refine r_lcmp dX10_product_18 ?_
    refine r_ifne (tgt := 26) dX10_product_19 (by decide) (fun zh19 => ?_) (fun zh19 => ?_)
    · refine r_iconst (v := 2) rfl dX10_product_26 ?_
      exact r_iret hG dX10_product_27 (⟨by simp_all [prodV, lcmp_eq, lcmp_ne], rfl, rfl, rfl⟩)
    · refine r_iconst (v := 1) rfl dX10_product_22 ?_
      refine r_goto (tgt := 27) dX10_product_23 (by decide) ?_
      exact r_iret hG dX10_product_27 (⟨by simp_all [prodV, lcmp_eq, lcmp_ne], rfl, rfl, rfl⟩)
  · refine r_iconst (v := 0) rfl dX10_product_8 ?_
    exact r_iret hG dX10_product_9 (⟨by simp_all [prodV, lcmp_eq, lcmp_ne], rfl, rfl, rfl⟩)
def strongV (x y : Int32) : Int32 := if x = 1 ∨ y = 1 then 1 else if x = 2 then 2 else y
set_option maxRecDepth 100000 in
theorem c_X10_stronger {x y : Int32} : Cf X yX10_stronger cX10_stronger 2 (some .int) 1 [.int x, .int y] n SH MI ML MR (some (.int (strongV x y))) MI ML MR := by
  refine Ct_of (by decide) (Nat.le_of_ble_eq_true rfl) (fun G hG => ?_)
  refine r_iload_n 0 rfl dX10_stronger_0 ?_
  refine r_iconst (v := 1) rfl dX10_stronger_1 ?_
  refine r_icmpeq (tgt := 10) dX10_stronger_2 (by decide) (fun zh2 => ?_) (fun zh2 => ?_)
  · refine r_iconst (v := 1) rfl dX10_stronger_10 ?_
    exact r_iret hG dX10_stronger_11 (⟨by simp_all [strongV], rfl, rfl, rfl⟩)
  · refine r_iload_n 1 rfl dX10_stronger_5 ?_
    refine r_iconst (v := 1) rfl dX10_stronger_6 ?_
    refine r_icmpne (tgt := 12) dX10_stronger_7 (by decide) (fun zh7 => ?_) (fun zh7 => ?_)
    · refine r_iload_n 0 rfl dX10_stronger_12 ?_
      refine r_iconst (v := 2) rfl dX10_stronger_13 ?_
      refine r_icmpne (tgt := 21) dX10_stronger_14 (by decide) (fun zh14 => ?_) (fun zh14 => ?_)
      · refine r_iload_n 1 rfl dX10_stronger_21 ?_
        exact r_iret hG dX10_stronger_22 (⟨by simp_all [strongV], rfl, rfl, rfl⟩)
      · refine r_iconst (v := 2) rfl dX10_stronger_17 ?_
        refine r_goto (tgt := 22) dX10_stronger_18 (by decide) ?_
        exact r_iret hG dX10_stronger_22 (⟨by simp_all [strongV], rfl, rfl, rfl⟩)
    · refine r_iconst (v := 1) rfl dX10_stronger_10 ?_
      exact r_iret hG dX10_stronger_11 (⟨by simp_all [strongV], rfl, rfl, rfl⟩)
end base
theorem bwd {N : Nat} {P : Nat → Prop} (h : ∀ i, i ≤ N → (i < N → P (i + 1)) → P i) : ∀ i, i ≤ N → P i := by
  have key : ∀ (j i : Nat), i ≤ N → N - i = j → P i := by
    intro j
    induction j using Nat.strongRecOn with
    | _ j ih => intro i hi hj; exact h i hi (fun hlt => ih (N - (i + 1)) (by omega) (i + 1) (by omega) rfl)
  exact fun i hi => key (N - i) i hi rfl
theorem geL {k i : Nat} (hk : k < 2 ^ 31) (hi : i < 2 ^ 31) (h : nI k ≤ nI i) : k ≤ i := (nI_leI hk hi).mp h
theorem ltL {k i : Nat} (hi : i < 2 ^ 31) (h : ¬ nI k ≤ nI i) : i < k := Nat.not_le.mp fun q => h (nI_le q hi)

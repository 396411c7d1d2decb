/-! the reference: REQUIRED CUBES, SAFE ones -/
theorem and1e (x : Int32) : ∃ m, m < 2 ∧ x &&& 1 = nI m := by
  by_cases h : x &&& 1 = 0
  · exact ⟨0, by decide, h⟩
  · exact ⟨1, by decide, (and1 x).mp h⟩
theorem numC_bd (p f : Int32) : ∀ k, ∃ m, m < 3 ^ k ∧ numC p f k = nI m
  | 0 => ⟨0, by decide, rfl⟩
  | k + 1 => by
    obtain ⟨m, hm, he⟩ := numC_bd p f k
    have h3 : nI m * 3 = nI (m * 3) := pk_mul m 3
    rw [numC, he, h3]
    split
    · obtain ⟨j, hj, hje⟩ := and1e (p >>> (nI k &&& 31))
      rw [hje, nI_add]
      exact ⟨m * 3 + j, by rw [Nat.pow_succ]; omega, rfl⟩
    · exact ⟨m * 3 + 2, by rw [Nat.pow_succ]; omega, nI_add (m * 3) 2⟩
theorem numC_in (p f : Int32) : ∃ m, m < 729 ∧ numC p f 6 = nI m := numC_bd p f 6
def flR (V : Mi) (x : Int32) (i : Nat) : Bool := bitR (valV (V 136) (V 128) (arR V i 0)) x && !bitR (valV (V 136) (V 128) (arR V i 1)) x
def bcR (V : Mi) (i : Nat) : Int32 := numC (pointV (V 135) (V 128) (arR V i 0)) (arR V i 2 ||| arR V i 3) 6
def tcR (V : Mi) (i : Nat) : Int32 := numC (pointV (V 135) (V 128) (arR V i 1)) ((pickV (V 128) 6 (arR V i 0) ^^^ pickV (V 128) 6 (arR V i 1)) <<< ((4 : Int32) &&& 31)) 6
def ctR (V : Mi) (B : Nat → Nat → Int64) (c i : Nat) : Bool := decide (¬ B 125 c &&& B 125 (bcR V i).toNatClampNeg = 0) && !hasL (B 125 c) (pointV (V 135) (V 128) (arR V i 0))
def sfP (V : Mi) (B : Nat → Nat → Int64) (f c : Nat) (k : Nat) : Bool := decide (B 125 c &&& B 138 f = 0) && (List.range k).all (fun i => !flR V (nI f) i || !ctR V B c i)
theorem sfP_s (V : Mi) (B : Nat → Nat → Int64) (f c k : Nat) : sfP V B f c (k + 1) = (sfP V B f c k && (!flR V (nI f) k || !ctR V B c k)) := by
  unfold sfP
  rw [List.range_succ, List.all_append]
  simp [Bool.and_assoc]
theorem sfP_f {V : Mi} {B : Nat → Nat → Int64} {f c k : Nat} (h : sfP V B f c k = false) : ∀ j, sfP V B f c (k + j) = false
  | 0 => h
  | j + 1 => by rw [show k + (j + 1) = (k + j) + 1 by omega, sfP_s, sfP_f h j]; rfl
/-- by one ARC, for a FUNCTION that falls -/
def nqF (fp fr : Int32) : Nat → List Int32
  | 0 => []
  | k + 1 => if bitR fr (nI k) = true then nqF fp fr k ++ [numC fp (fr &&& (((1 : Int32) <<< (nI k &&& 31)) ^^^ -1)) 6] else nqF fp fr k
def nqA (V : Mi) (x : Int32) (i : Nat) : List Int32 :=
  let isb := bitR (valV (V 136) (V 128) (arR V i 0)) x
  let ist := bitR (valV (V 136) (V 128) (arR V i 1)) x
  (if isb = true ∧ ist = true then [bcR V i] else []) ++ ((if isb = true ∧ ist = false then nqF (pointV (V 135) (V 128) (arR V i 0)) (arR V i 2 ||| arR V i 3) 4 else []) ++ (if ist = true then [tcR V i] else []))
def rqA (V : Mi) (x : Int32) : Nat → List Int32
  | 0 => []
  | k + 1 => addAll (rqA V x k) (nqA V x k)
def rqL (V : Mi) (x : Int32) (A b : Nat) : List Int32 := if bitR (valV (V 136) (V 128) (nI b)) x = true then addL (rqA V x A) (numC (pointV (V 135) (V 128) (nI b)) 0 6) else rqA V x A
theorem nqF_len (fp fr : Int32) : ∀ k, (nqF fp fr k).length ≤ k
  | 0 => Nat.le_refl _
  | k + 1 => by
    have := nqF_len fp fr k
    rw [nqF]
    split
    · rw [List.length_append]; simp; omega
    · omega
theorem nqA_len (V : Mi) (x : Int32) (i : Nat) : (nqA V x i).length ≤ 4 := by
  unfold nqA
  simp only
  have h := nqF_len (pointV (V 135) (V 128) (arR V i 0)) (arR V i 2 ||| arR V i 3) 4
  cases bitR (valV (V 136) (V 128) (arR V i 0)) x <;> cases bitR (valV (V 136) (V 128) (arR V i 1)) x <;> simp <;> omega
theorem rqA_len (V : Mi) (x : Int32) : ∀ k, (rqA V x k).length ≤ 4 * k
  | 0 => Nat.le_refl _
  | k + 1 => by
    have h1 := rqA_len V x k
    have h2 := addAll_len (nqA V x k) (rqA V x k)
    have h3 := nqA_len V x k
    rw [rqA]
    omega
theorem rqL_len (V : Mi) (x : Int32) {A : Nat} (b : Nat) (hA : A ≤ 8) : (rqL V x A b).length ≤ 33 := by
  have h1 := rqA_len V x A
  unfold rqL
  split
  · have := addL_len (rqA V x A) (numC (pointV (V 135) (V 128) (nI b)) 0 6)
    omega
  · omega
def ndM (MI : Mi) (r : Nat → Int32) (L : List Int32) : Mi := u2 (sr MI 139 (layL r L)) 124 32 (nI L.length)
theorem ndM_r {MI : Mi} {r : Nat → Int32} {L : List Int32} : ndM MI r L 139 = layL r L := by
  unfold ndM
  rw [u2_row _ _ (by decide), sr_eq]
theorem ndM_c {MI : Mi} {r : Nat → Int32} {L : List Int32} : ndM MI r L 124 32 = nI L.length := u2_eq _ _ _ _
theorem ndM_b {MI : Mi} {r : Nat → Int32} {L : List Int32} {b : Nat} (h1 : b ≠ 124) (h2 : b ≠ 139) : ndM MI r L b = MI b := by
  unfold ndM
  rw [u2_row _ _ h1, sr_ne _ _ h2]
theorem addAll_app (L xs ys : List Int32) : addAll L (xs ++ ys) = addAll (addAll L xs) ys := List.foldl_append
theorem addAll_1 (L : List Int32) (x : Int32) : addAll L [x] = addL L x := rfl
section rneeds
variable {X : xG} {n : Nat} {MI : Nat → Nat → Int32} {ML : Nat → Nat → Int64} {MR : Nat → Nat → Option Nat}
set_option maxRecDepth 100000 in
theorem c_X11_isOne (hM : x_Lay MR) {k : Nat} (hk : k < 6) {x : Int32} : Cf X yX11_isOne cX11_isOne 3 (some .boolean) 3 [.ref 124, .int x, .int (nI k)] n SH MI ML MR (some (.int (b2 (bitR (valV (MI 136) (MI 128) (nI k)) x)))) MI ML MR := by
  refine Ct_of (by decide) (Nat.le_of_ble_eq_true rfl) (fun G hG => ?_)
  refine r_aload_n 0 rfl dX11_isOne_0 ?_
  refine r_iload_n 2 rfl dX11_isOne_1 ?_
  refine r_Vf [.int _] dX11_isOne_2 lk_X11_316 mb_X11_wants in_X11_wants se_X11_wants rfl (c_X11_wants hM hk) rfl rfl rfl (Nat.le_of_ble_eq_true rfl) (rfl) ?_
  refine r_iload_n 1 rfl dX11_isOne_5 ?_
  refine r_Sf [.int _, .int _] dX11_isOne_6 lk_X11_114 mb_X11_bit sc_X11_bit rfl (c_X11_bit) rfl (Nat.le_of_ble_eq_true rfl) (rfl) ?_
  exact r_zret hG dX11_isOne_9 (by cases bitR (valV (MI 136) (MI 128) (nI k)) x <;> rfl) (⟨rfl, rfl, rfl, rfl⟩)
set_option maxRecDepth 100000 in
theorem c_X11_falling (hM : x_Lay MR) {A S i : Nat} (hA : A ≤ 8) (hS : S ≤ 6) (hP : okA (arR MI) A S) (hi : i < A) {x : Int32} : Cf X yX11_falling cX11_falling 3 (some .boolean) 4 [.ref 124, .int x, .int (nI i)] n SH MI ML MR (some (.int (b2 (flR MI x i)))) MI ML MR := by
  refine Ct_of (by decide) (Nat.le_of_ble_eq_true rfl) (fun G hG => ?_)
  obtain ⟨⟨f, hf, hfe⟩, ⟨g, hg, hge⟩⟩ := hP i hi
  have hfl : flR MI x i = (bitR (valV (MI 136) (MI 128) (nI f)) x && !bitR (valV (MI 136) (MI 128) (nI g)) x) := by unfold flR; rw [hfe, hge]
  refine r_aload_n 0 rfl dX11_falling_0 ?_
  refine r_iload_n 1 rfl dX11_falling_1 ?_
  refine r_aload_n 0 rfl dX11_falling_2 ?_
  refine r_iload_n 2 rfl dX11_falling_3 ?_
  refine r_iconst (v := 0) rfl dX11_falling_4 ?_
  refine r_Vf [.int _, .int _] dX11_falling_5 lk_X11_270 mb_X11_arcOf in_X11_arcOf se_X11_arcOf rfl (c_X11_arcOf (j := 0) hM (show i < 8 by omega) (by decide)) rfl rfl rfl (Nat.le_of_ble_eq_true rfl) (rfl) ?_
  rw [hfe]
  refine r_Vf [.int _, .int _] dX11_falling_8 lk_X11_355 mb_X11_isOne in_X11_isOne se_X11_isOne rfl (c_X11_isOne hM (show f < 6 by omega)) rfl rfl rfl (Nat.le_of_ble_eq_true rfl) (rfl) ?_
  refine r_ifeq (tgt := 32) dX11_falling_11 (by decide) (fun zh11 => ?_) (fun zh11 => ?_)
  · refine r_iconst (v := 0) rfl dX11_falling_32 ?_
    exact r_zret hG dX11_falling_33 (rfl) (by
        rw [hfl]
        refine ⟨?_, rfl, rfl, rfl⟩
        first
          | (have z1 : bitR (valV (MI 136) (MI 128) (nI f)) x = true := b2n.mp zh11
             have z2 : bitR (valV (MI 136) (MI 128) (nI g)) x = true := b2n.mp zh25
             rw [z1, z2]; rfl)
          | (have z1 : bitR (valV (MI 136) (MI 128) (nI f)) x = true := b2n.mp zh11
             have z2 : bitR (valV (MI 136) (MI 128) (nI g)) x = false := b2z.mp zh25
             rw [z1, z2]; rfl)
          | (have z1 : bitR (valV (MI 136) (MI 128) (nI f)) x = false := b2z.mp zh11
             rw [z1]; rfl))
  · refine r_aload_n 0 rfl dX11_falling_14 ?_
    refine r_iload_n 1 rfl dX11_falling_15 ?_
    refine r_aload_n 0 rfl dX11_falling_16 ?_
    refine r_iload_n 2 rfl dX11_falling_17 ?_
    refine r_iconst (v := 1) rfl dX11_falling_18 ?_
    refine r_Vf [.int _, .int _] dX11_falling_19 lk_X11_270 mb_X11_arcOf in_X11_arcOf se_X11_arcOf rfl (c_X11_arcOf (j := 1) hM (show i < 8 by omega) (by decide)) rfl rfl rfl (Nat.le_of_ble_eq_true rfl) (rfl) ?_
    rw [hge]
    refine r_Vf [.int _, .int _] dX11_falling_22 lk_X11_355 mb_X11_isOne in_X11_isOne se_X11_isOne rfl (c_X11_isOne hM (show g < 6 by omega)) rfl rfl rfl (Nat.le_of_ble_eq_true rfl) (rfl) ?_
    refine r_ifne (tgt := 32) dX11_falling_25 (by decide) (fun zh25 => ?_) (fun zh25 => ?_)
    · refine r_iconst (v := 0) rfl dX11_falling_32 ?_
      exact r_zret hG dX11_falling_33 (rfl) (by
          rw [hfl]
          refine ⟨?_, rfl, rfl, rfl⟩
          first
            | (have z1 : bitR (valV (MI 136) (MI 128) (nI f)) x = true := b2n.mp zh11
               have z2 : bitR (valV (MI 136) (MI 128) (nI g)) x = true := b2n.mp zh25
               rw [z1, z2]; rfl)
            | (have z1 : bitR (valV (MI 136) (MI 128) (nI f)) x = true := b2n.mp zh11
               have z2 : bitR (valV (MI 136) (MI 128) (nI g)) x = false := b2z.mp zh25
               rw [z1, z2]; rfl)
            | (have z1 : bitR (valV (MI 136) (MI 128) (nI f)) x = false := b2z.mp zh11
               rw [z1]; rfl))
    · refine r_iconst (v := 1) rfl dX11_falling_28 ?_
      refine r_goto (tgt := 33) dX11_falling_29 (by decide) ?_
      exact r_zret hG dX11_falling_33 (rfl) (by
          rw [hfl]
          refine ⟨?_, rfl, rfl, rfl⟩
          first
            | (have z1 : bitR (valV (MI 136) (MI 128) (nI f)) x = true := b2n.mp zh11
               have z2 : bitR (valV (MI 136) (MI 128) (nI g)) x = true := b2n.mp zh25
               rw [z1, z2]; rfl)
            | (have z1 : bitR (valV (MI 136) (MI 128) (nI f)) x = true := b2n.mp zh11
               have z2 : bitR (valV (MI 136) (MI 128) (nI g)) x = false := b2z.mp zh25
               rw [z1, z2]; rfl)
            | (have z1 : bitR (valV (MI 136) (MI 128) (nI f)) x = false := b2z.mp zh11
               rw [z1]; rfl))
set_option maxRecDepth 100000 in
theorem c_X11_burstCube (hM : x_Lay MR) {A S i : Nat} (hA : A ≤ 8) (hS : S ≤ 6) (hP : okA (arR MI) A S) (hi : i < A) : Cf X yX11_burstCube cX11_burstCube 2 (some .int) 3 [.ref 124, .int (nI i)] n SH MI ML MR (some (.int (bcR MI i))) MI ML MR := by
  refine Ct_of (by decide) (Nat.le_of_ble_eq_true rfl) (fun G hG => ?_)
  obtain ⟨⟨f, hf, hfe⟩, -⟩ := hP i hi
  refine r_aload_n 0 rfl dX11_burstCube_0 ?_
  refine r_aload_n 0 rfl dX11_burstCube_1 ?_
  refine r_iload_n 1 rfl dX11_burstCube_2 ?_
  refine r_iconst (v := 0) rfl dX11_burstCube_3 ?_
  refine r_Vf [.int _, .int _] dX11_burstCube_4 lk_X11_270 mb_X11_arcOf in_X11_arcOf se_X11_arcOf rfl (c_X11_arcOf (j := 0) hM (show i < 8 by omega) (by decide)) rfl rfl rfl (Nat.le_of_ble_eq_true rfl) (rfl) ?_
  rw [hfe]
  refine r_Vf [.int _] dX11_burstCube_7 lk_X11_313 mb_X11_pointOf in_X11_pointOf se_X11_pointOf rfl (c_X11_pointOf hM (show f < 6 by omega)) rfl rfl rfl (Nat.le_of_ble_eq_true rfl) (rfl) ?_
  refine r_aload_n 0 rfl dX11_burstCube_10 ?_
  refine r_iload_n 1 rfl dX11_burstCube_11 ?_
  refine r_Vf [.int _] dX11_burstCube_12 lk_X11_307 mb_X11_changed in_X11_changed se_X11_changed rfl (c_X11_changed hM (show i < 8 by omega)) rfl rfl rfl (Nat.le_of_ble_eq_true rfl) (rfl) ?_
  refine r_Sf [.int _, .int _] dX11_burstCube_15 lk_X11_245 mb_X11_cubeOf sc_X11_cubeOf rfl (c_X11_cubeOf) rfl (Nat.le_of_ble_eq_true rfl) (rfl) ?_
  exact r_iret hG dX11_burstCube_18 (⟨by unfold bcR; rw [hfe], rfl, rfl, rfl⟩)
set_option maxRecDepth 100000 in
theorem c_X11_turnCube (hM : x_Lay MR) {A S i : Nat} (hA : A ≤ 8) (hS : S ≤ 6) (hP : okA (arR MI) A S) (hi : i < A) : Cf X yX11_turnCube cX11_turnCube 2 (some .int) 3 [.ref 124, .int (nI i)] n SH MI ML MR (some (.int (tcR MI i))) MI ML MR := by
  refine Ct_of (by decide) (Nat.le_of_ble_eq_true rfl) (fun G hG => ?_)
  obtain ⟨⟨f, hf, hfe⟩, ⟨g, hg, hge⟩⟩ := hP i hi
  refine r_aload_n 0 rfl dX11_turnCube_0 ?_
  refine r_aload_n 0 rfl dX11_turnCube_1 ?_
  refine r_iload_n 1 rfl dX11_turnCube_2 ?_
  refine r_iconst (v := 1) rfl dX11_turnCube_3 ?_
  refine r_Vf [.int _, .int _] dX11_turnCube_4 lk_X11_270 mb_X11_arcOf in_X11_arcOf se_X11_arcOf rfl (c_X11_arcOf (j := 1) hM (show i < 8 by omega) (by decide)) rfl rfl rfl (Nat.le_of_ble_eq_true rfl) (rfl) ?_
  rw [hge]
  refine r_Vf [.int _] dX11_turnCube_7 lk_X11_313 mb_X11_pointOf in_X11_pointOf se_X11_pointOf rfl (c_X11_pointOf hM (show g < 6 by omega)) rfl rfl rfl (Nat.le_of_ble_eq_true rfl) (rfl) ?_
  refine r_aload_n 0 rfl dX11_turnCube_10 ?_
  refine r_aload_n 0 rfl dX11_turnCube_11 ?_
  refine r_iload_n 1 rfl dX11_turnCube_12 ?_
  refine r_iconst (v := 0) rfl dX11_turnCube_13 ?_
  refine r_Vf [.int _, .int _] dX11_turnCube_14 lk_X11_270 mb_X11_arcOf in_X11_arcOf se_X11_arcOf rfl (c_X11_arcOf (j := 0) hM (show i < 8 by omega) (by decide)) rfl rfl rfl (Nat.le_of_ble_eq_true rfl) (rfl) ?_
  rw [hfe]
  refine r_Vf [.int _] dX11_turnCube_17 lk_X11_310 mb_X11_codeOf in_X11_codeOf se_X11_codeOf rfl (c_X11_codeOf hM (show f < 6 by omega)) rfl rfl rfl (Nat.le_of_ble_eq_true rfl) (rfl) ?_
  refine r_aload_n 0 rfl dX11_turnCube_20 ?_
  refine r_aload_n 0 rfl dX11_turnCube_21 ?_
  refine r_iload_n 1 rfl dX11_turnCube_22 ?_
  refine r_iconst (v := 1) rfl dX11_turnCube_23 ?_
  refine r_Vf [.int _, .int _] dX11_turnCube_24 lk_X11_270 mb_X11_arcOf in_X11_arcOf se_X11_arcOf rfl (c_X11_arcOf (j := 1) hM (show i < 8 by omega) (by decide)) rfl rfl rfl (Nat.le_of_ble_eq_true rfl) (rfl) ?_
  rw [hge]
  refine r_Vf [.int _] dX11_turnCube_27 lk_X11_310 mb_X11_codeOf in_X11_codeOf se_X11_codeOf rfl (c_X11_codeOf hM (show g < 6 by omega)) rfl rfl rfl (Nat.le_of_ble_eq_true rfl) (rfl) ?_
  refine r_ixor dX11_turnCube_30 ?_
  refine r_iconst (v := 4) rfl dX11_turnCube_31 ?_
  refine r_ishl dX11_turnCube_32 ?_
  refine r_Sf [.int _, .int _] dX11_turnCube_33 lk_X11_245 mb_X11_cubeOf sc_X11_cubeOf rfl (c_X11_cubeOf) rfl (Nat.le_of_ble_eq_true rfl) (rfl) ?_
  exact r_iret hG dX11_turnCube_36 (⟨by unfold tcR; rw [hfe, hge, pickV_nI _ (show f < 6 by omega) (by decide), pickV_nI _ (show g < 6 by omega) (by decide)], rfl, rfl, rfl⟩)
theorem bcR_in (V : Mi) (i : Nat) : ∃ m, m < 729 ∧ bcR V i = nI m := numC_in _ _
set_option maxRecDepth 100000 in
theorem c_X11_cuts (hM : x_Lay MR) {A S i c : Nat} (hA : A ≤ 8) (hS : S ≤ 6) (hP : okA (arR MI) A S) (hi : i < A) (hc : c < 729) : Cf X yX11_cuts cX11_cuts 3 (some .boolean) 4 [.ref 124, .int (nI c), .int (nI i)] n SH MI ML MR (some (.int (b2 (ctR MI ML c i)))) MI ML MR := by
  refine Ct_of (by decide) (Nat.le_of_ble_eq_true rfl) (fun G hG => ?_)
  obtain ⟨⟨f, hf, hfe⟩, -⟩ := hP i hi
  obtain ⟨m, hm, hme⟩ := bcR_in MI i
  have cm : (nI m).toNatClampNeg = m := nI_clamp (by omega)
  have cc : (nI c).toNatClampNeg = c := nI_clamp (by omega)
  have hct : ctR MI ML c i = (decide (¬ ML 125 c &&& ML 125 m = 0) && !hasL (ML 125 c) (pointV (MI 135) (MI 128) (nI f))) := by unfold ctR; rw [hfe, hme, cm]
  refine r_aload_n 0 rfl dX11_cuts_0 ?_
  refine r_getr dX11_cuts_1 fl_X11_19 rfl (hM _ _ _ rfl) ?_
  refine r_iload_n 1 rfl dX11_cuts_4 ?_
  refine r_lald dX11_cuts_5 rfl (vp_in_nI hc (by decide)) ?_
  refine r_aload_n 0 rfl dX11_cuts_6 ?_
  refine r_getr dX11_cuts_7 fl_X11_19 rfl (hM _ _ _ rfl) ?_
  refine r_aload_n 0 rfl dX11_cuts_10 ?_
  refine r_iload_n 2 rfl dX11_cuts_11 ?_
  refine r_Vf [.int _] dX11_cuts_12 lk_X11_361 mb_X11_burstCube in_X11_burstCube se_X11_burstCube rfl (c_X11_burstCube hM hA hS hP hi) rfl rfl rfl (Nat.le_of_ble_eq_true rfl) (rfl) ?_
  rw [hme]
  refine r_lald dX11_cuts_15 rfl (vp_in_nI hm (by decide)) ?_
  refine r_land dX11_cuts_16 ?_
  refine r_lconst (v := 0) rfl dX11_cuts_17 ?_
  refine r_lcmp dX11_cuts_18 ?_
  refine r_ifeq (tgt := 48) dX11_cuts_19 (by decide) (fun zh19 => ?_) (fun zh19 => ?_)
  · refine r_iconst (v := 0) rfl dX11_cuts_48 ?_
    exact r_zret hG dX11_cuts_49 (rfl) (by
        rw [hct]
        refine ⟨?_, rfl, rfl, rfl⟩
        rw [cc, cm, lcmp_eq] at zh19
        first
          | (rw [cc] at zh41
             have z2 : hasL (ML 125 c) (pointV (MI 135) (MI 128) (nI f)) = true := b2n.mp zh41
             rw [z2, decide_eq_true zh19]; rfl)
          | (rw [cc] at zh41
             have z2 : hasL (ML 125 c) (pointV (MI 135) (MI 128) (nI f)) = false := b2z.mp zh41
             rw [z2, decide_eq_true zh19]; rfl)
          | (have z1 : decide (¬ ML 125 c &&& ML 125 m = 0) = false := decide_eq_false (fun z => z zh19)
             rw [z1]; rfl))
  · refine r_aload_n 0 rfl dX11_cuts_22 ?_
    refine r_getr dX11_cuts_23 fl_X11_19 rfl (hM _ _ _ rfl) ?_
    refine r_iload_n 1 rfl dX11_cuts_26 ?_
    refine r_lald dX11_cuts_27 rfl (vp_in_nI hc (by decide)) ?_
    refine r_aload_n 0 rfl dX11_cuts_28 ?_
    refine r_aload_n 0 rfl dX11_cuts_29 ?_
    refine r_iload_n 2 rfl dX11_cuts_30 ?_
    refine r_iconst (v := 0) rfl dX11_cuts_31 ?_
    refine r_Vf [.int _, .int _] dX11_cuts_32 lk_X11_270 mb_X11_arcOf in_X11_arcOf se_X11_arcOf rfl (c_X11_arcOf (j := 0) hM (show i < 8 by omega) (by decide)) rfl rfl rfl (Nat.le_of_ble_eq_true rfl) (rfl) ?_
    rw [hfe]
    refine r_Vf [.int _] dX11_cuts_35 lk_X11_313 mb_X11_pointOf in_X11_pointOf se_X11_pointOf rfl (c_X11_pointOf hM (show f < 6 by omega)) rfl rfl rfl (Nat.le_of_ble_eq_true rfl) (rfl) ?_
    refine r_Sf [.long _, .int _] dX11_cuts_38 lk_X11_347 mb_X11_has sc_X11_has rfl (c_X11_has) rfl (Nat.le_of_ble_eq_true rfl) (rfl) ?_
    refine r_ifne (tgt := 48) dX11_cuts_41 (by decide) (fun zh41 => ?_) (fun zh41 => ?_)
    · refine r_iconst (v := 0) rfl dX11_cuts_48 ?_
      exact r_zret hG dX11_cuts_49 (rfl) (by
          rw [hct]
          refine ⟨?_, rfl, rfl, rfl⟩
          rw [cc, cm, lcmp_eq] at zh19
          first
            | (rw [cc] at zh41
               have z2 : hasL (ML 125 c) (pointV (MI 135) (MI 128) (nI f)) = true := b2n.mp zh41
               rw [z2, decide_eq_true zh19]; rfl)
            | (rw [cc] at zh41
               have z2 : hasL (ML 125 c) (pointV (MI 135) (MI 128) (nI f)) = false := b2z.mp zh41
               rw [z2, decide_eq_true zh19]; rfl)
            | (have z1 : decide (¬ ML 125 c &&& ML 125 m = 0) = false := decide_eq_false (fun z => z zh19)
               rw [z1]; rfl))
    · refine r_iconst (v := 1) rfl dX11_cuts_44 ?_
      refine r_goto (tgt := 49) dX11_cuts_45 (by decide) ?_
      exact r_zret hG dX11_cuts_49 (rfl) (by
          rw [hct]
          refine ⟨?_, rfl, rfl, rfl⟩
          rw [cc, cm, lcmp_eq] at zh19
          first
            | (rw [cc] at zh41
               have z2 : hasL (ML 125 c) (pointV (MI 135) (MI 128) (nI f)) = true := b2n.mp zh41
               rw [z2, decide_eq_true zh19]; rfl)
            | (rw [cc] at zh41
               have z2 : hasL (ML 125 c) (pointV (MI 135) (MI 128) (nI f)) = false := b2z.mp zh41
               rw [z2, decide_eq_true zh19]; rfl)
            | (have z1 : decide (¬ ML 125 c &&& ML 125 m = 0) = false := decide_eq_false (fun z => z zh19)
               rw [z1]; rfl))
set_option maxRecDepth 100000 in
theorem c_X11_isSafe (hM : x_Lay MR) {A S f c : Nat} (hA : A ≤ 8) (hS : S ≤ 6) (hAr : MI 128 6 = nI A) (hP : okA (arR MI) A S) (hf : f < 5) (hc : c < 729) : Cf X yX11_isSafe cX11_isSafe 5 (some .boolean) 5 [.ref 124, .int (nI f), .int (nI c)] n SH MI ML MR (some (.int (b2 (sfP MI ML f c A)))) MI ML MR := by
  refine Ct_of (by decide) (Nat.le_of_ble_eq_true rfl) (fun G hG => ?_)
  have c6 : (6 : Int32).toNatClampNeg = 6 := rfl
  have cc : (nI c).toNatClampNeg = c := nI_clamp (by omega)
  have cf : (nI f).toNatClampNeg = f := nI_clamp (by omega)
  have loop : ∀ i, i ≤ A → RW X G RX11 cX11_isSafe 5 (x_rm 5 0 0) n SH MI ML MR 0 0 27 [(4, .int (nI i)), (3, .int (b2 (sfP MI ML f c i))), (0, .ref 124), (1, .int (nI f)), (2, .int (nI c))] [] := by
    refine bwd (fun i hi ih => ?_)
    refine r_iload 0 rfl dX11_isSafe_27 ?_
    refine r_aload_n 2 rfl dX11_isSafe_29 ?_
    refine r_getr dX11_isSafe_30 fl_X11_31 rfl (hM _ _ _ rfl) ?_
    refine r_bipush (v := 6) rfl dX11_isSafe_33 ?_
    refine r_iald dX11_isSafe_35 rfl (vpk (k := 6) (by decide) (by decide) rfl) ?_
    refine r_icmpge (tgt := 75) dX11_isSafe_36 (by decide) (fun zh36 => ?_) (fun zh36 => ?_)
    · refine r_iload_n 1 rfl dX11_isSafe_75 ?_
      exact r_zret hG dX11_isSafe_76 (by cases sfP MI ML f c i <;> rfl) (by
          refine ⟨?_, rfl, rfl, rfl⟩
          first
            | (have z1 : sfP MI ML f c i = false := b2z.mp zh40
               have z2 := sfP_f z1 (A - i)
               rw [show i + (A - i) = A by omega] at z2
               rw [z1, z2])
            | (rw [c6, hAr] at zh36
               have hie : i = A := by have := geL (k := A) (by omega) (by omega) zh36; omega
               rw [hie]))
    · rw [c6, hAr] at zh36
      have hlt : i < A := ltL (by omega) zh36
      refine r_iload_n 1 rfl dX11_isSafe_39 ?_
      refine r_ifeq (tgt := 75) dX11_isSafe_40 (by decide) (fun zh40 => ?_) (fun zh40 => ?_)
      · refine r_iload_n 1 rfl dX11_isSafe_75 ?_
        exact r_zret hG dX11_isSafe_76 (by cases sfP MI ML f c i <;> rfl) (by
            refine ⟨?_, rfl, rfl, rfl⟩
            first
              | (have z1 : sfP MI ML f c i = false := b2z.mp zh40
                 have z2 := sfP_f z1 (A - i)
                 rw [show i + (A - i) = A by omega] at z2
                 rw [z1, z2])
              | (rw [c6, hAr] at zh36
                 have hie : i = A := by have := geL (k := A) (by omega) (by omega) zh36; omega
                 rw [hie]))
      · refine r_aload_n 2 rfl dX11_isSafe_43 ?_
        refine r_iload_n 3 rfl dX11_isSafe_44 ?_
        refine r_iload 0 rfl dX11_isSafe_45 ?_
        refine r_Vf [.int _, .int _] dX11_isSafe_47 lk_X11_376 mb_X11_falling in_X11_falling se_X11_falling rfl (c_X11_falling hM hA hS hP hlt) rfl rfl rfl (Nat.le_of_ble_eq_true rfl) (rfl) ?_
        refine r_ifeq (tgt := 63) dX11_isSafe_50 (by decide) (fun zh50 => ?_) (fun zh50 => ?_)
        · refine r_iconst (v := 1) rfl dX11_isSafe_63 ?_
          refine r_goto (tgt := 68) dX11_isSafe_64 (by decide) ?_
          refine r_istore_n (ls2 := [(3, .int 1), (4, .int (nI i)), (0, .ref 124), (1, .int (nI f)), (2, .int (nI c))]) dX11_isSafe_68 (by decide) rfl ?_
          refine r_iinc (v := (nI (i + 1))) (ls2 := [(4, .int (nI (i + 1))), (3, .int 1), (0, .ref 124), (1, .int (nI f)), (2, .int (nI c))]) 1 dX11_isSafe_69 rfl (x_inc i) (by decide) rfl ?_
          refine r_goto (tgt := 27) dX11_isSafe_72 (by decide) ?_
          have zq := ih hlt
          rw [sfP_s] at zq
          have z0 : sfP MI ML f c i = true := b2n.mp zh40
          rw [z0] at zq
          first
            | (have z1 : flR MI (nI f) i = true := b2n.mp zh50
               have z2 : ctR MI ML c i = true := b2n.mp zh60
               rw [z1, z2] at zq; exact r_sub [0, 1, 2, 3, 4] rfl zq)
            | (have z1 : flR MI (nI f) i = true := b2n.mp zh50
               have z2 : ctR MI ML c i = false := b2z.mp zh60
               rw [z1, z2] at zq; exact r_sub [0, 1, 2, 3, 4] rfl zq)
            | (have z1 : flR MI (nI f) i = false := b2z.mp zh50
               rw [z1] at zq; exact r_sub [0, 1, 2, 3, 4] rfl zq)
        · refine r_aload_n 2 rfl dX11_isSafe_53 ?_
          refine r_iload_n 4 rfl dX11_isSafe_54 ?_
          refine r_iload 0 rfl dX11_isSafe_55 ?_
          refine r_Vf [.int _, .int _] dX11_isSafe_57 lk_X11_379 mb_X11_cuts in_X11_cuts se_X11_cuts rfl (c_X11_cuts hM hA hS hP hlt hc) rfl rfl rfl (Nat.le_of_ble_eq_true rfl) (rfl) ?_
          refine r_ifne (tgt := 67) dX11_isSafe_60 (by decide) (fun zh60 => ?_) (fun zh60 => ?_)
          · refine r_iconst (v := 0) rfl dX11_isSafe_67 ?_
            refine r_istore_n (ls2 := [(3, .int 0), (4, .int (nI i)), (0, .ref 124), (1, .int (nI f)), (2, .int (nI c))]) dX11_isSafe_68 (by decide) rfl ?_
            refine r_iinc (v := (nI (i + 1))) (ls2 := [(4, .int (nI (i + 1))), (3, .int 0), (0, .ref 124), (1, .int (nI f)), (2, .int (nI c))]) 1 dX11_isSafe_69 rfl (x_inc i) (by decide) rfl ?_
            refine r_goto (tgt := 27) dX11_isSafe_72 (by decide) ?_
            have zq := ih hlt
            rw [sfP_s] at zq
            have z0 : sfP MI ML f c i = true := b2n.mp zh40
            rw [z0] at zq
            first
              | (have z1 : flR MI (nI f) i = true := b2n.mp zh50
                 have z2 : ctR MI ML c i = true := b2n.mp zh60
                 rw [z1, z2] at zq; exact r_sub [0, 1, 2, 3, 4] rfl zq)
              | (have z1 : flR MI (nI f) i = true := b2n.mp zh50
                 have z2 : ctR MI ML c i = false := b2z.mp zh60
                 rw [z1, z2] at zq; exact r_sub [0, 1, 2, 3, 4] rfl zq)
              | (have z1 : flR MI (nI f) i = false := b2z.mp zh50
                 rw [z1] at zq; exact r_sub [0, 1, 2, 3, 4] rfl zq)
          · refine r_iconst (v := 1) rfl dX11_isSafe_63 ?_
            refine r_goto (tgt := 68) dX11_isSafe_64 (by decide) ?_
            refine r_istore_n (ls2 := [(3, .int 1), (4, .int (nI i)), (0, .ref 124), (1, .int (nI f)), (2, .int (nI c))]) dX11_isSafe_68 (by decide) rfl ?_
            refine r_iinc (v := (nI (i + 1))) (ls2 := [(4, .int (nI (i + 1))), (3, .int 1), (0, .ref 124), (1, .int (nI f)), (2, .int (nI c))]) 1 dX11_isSafe_69 rfl (x_inc i) (by decide) rfl ?_
            refine r_goto (tgt := 27) dX11_isSafe_72 (by decide) ?_
            have zq := ih hlt
            rw [sfP_s] at zq
            have z0 : sfP MI ML f c i = true := b2n.mp zh40
            rw [z0] at zq
            first
              | (have z1 : flR MI (nI f) i = true := b2n.mp zh50
                 have z2 : ctR MI ML c i = true := b2n.mp zh60
                 rw [z1, z2] at zq; exact r_sub [0, 1, 2, 3, 4] rfl zq)
              | (have z1 : flR MI (nI f) i = true := b2n.mp zh50
                 have z2 : ctR MI ML c i = false := b2z.mp zh60
                 rw [z1, z2] at zq; exact r_sub [0, 1, 2, 3, 4] rfl zq)
              | (have z1 : flR MI (nI f) i = false := b2z.mp zh50
                 rw [z1] at zq; exact r_sub [0, 1, 2, 3, 4] rfl zq)
  refine r_aload_n 0 rfl dX11_isSafe_0 ?_
  refine r_getr dX11_isSafe_1 fl_X11_19 rfl (hM _ _ _ rfl) ?_
  refine r_iload_n 2 rfl dX11_isSafe_4 ?_
  refine r_lald dX11_isSafe_5 rfl (vp_in_nI hc (by decide)) ?_
  refine r_aload_n 0 rfl dX11_isSafe_6 ?_
  refine r_getr dX11_isSafe_7 fl_X11_62 rfl (hM _ _ _ rfl) ?_
  refine r_iload_n 1 rfl dX11_isSafe_10 ?_
  refine r_lald dX11_isSafe_11 rfl (vp_in_nI hf (by decide)) ?_
  refine r_land dX11_isSafe_12 ?_
  refine r_lconst (v := 0) rfl dX11_isSafe_13 ?_
  refine r_lcmp dX11_isSafe_14 ?_
  refine r_ifne (tgt := 22) dX11_isSafe_15 (by decide) (fun zh15 => ?_) (fun zh15 => ?_)
  · refine r_iconst (v := 0) rfl dX11_isSafe_22 ?_
    refine r_istore_n (ls2 := [(3, .int 0), (0, .ref 124), (1, .int (nI f)), (2, .int (nI c))]) dX11_isSafe_23 (by decide) rfl ?_
    refine r_iconst (v := 0) rfl dX11_isSafe_24 ?_
    refine r_istore (ls2 := [(4, .int 0), (3, .int 0), (0, .ref 124), (1, .int (nI f)), (2, .int (nI c))]) dX11_isSafe_25 (by decide) rfl ?_
    have zq := loop 0 (Nat.zero_le _)
    have e0 : sfP MI ML f c 0 = decide (ML 125 c &&& ML 138 f = 0) := by unfold sfP; simp
    rw [e0] at zq
    rw [cc, cf, lcmp_eq] at zh15
    first
      | (rw [decide_eq_true zh15] at zq; exact r_sub [0, 1, 2, 3, 4] rfl zq)
      | (rw [decide_eq_false zh15] at zq; exact r_sub [0, 1, 2, 3, 4] rfl zq)
  · refine r_iconst (v := 1) rfl dX11_isSafe_18 ?_
    refine r_goto (tgt := 23) dX11_isSafe_19 (by decide) ?_
    refine r_istore_n (ls2 := [(3, .int 1), (0, .ref 124), (1, .int (nI f)), (2, .int (nI c))]) dX11_isSafe_23 (by decide) rfl ?_
    refine r_iconst (v := 0) rfl dX11_isSafe_24 ?_
    refine r_istore (ls2 := [(4, .int 0), (3, .int 1), (0, .ref 124), (1, .int (nI f)), (2, .int (nI c))]) dX11_isSafe_25 (by decide) rfl ?_
    have zq := loop 0 (Nat.zero_le _)
    have e0 : sfP MI ML f c 0 = decide (ML 125 c &&& ML 138 f = 0) := by unfold sfP; simp
    rw [e0] at zq
    rw [cc, cf, lcmp_eq] at zh15
    first
      | (rw [decide_eq_true zh15] at zq; exact r_sub [0, 1, 2, 3, 4] rfl zq)
      | (rw [decide_eq_false zh15] at zq; exact r_sub [0, 1, 2, 3, 4] rfl zq)
theorem t_addNeed (hM : x_Lay MR) {r : Nat → Int32} {L : List Int32} {x : Int32} (hL : L.length < 41) : Cf X yX11_addNeed cX11_addNeed 3 none 1 [.ref 124, .int x] n SH (ndM MI r L) ML MR none (ndM MI r (addL L x)) ML MR := by
  refine Ct_of (by decide) (Nat.le_of_ble_eq_true rfl) (fun G hG => ?_)
  have loop : ∀ i, i ≤ L.length → (∀ k, k < i → ¬ L.getD k 0 = x) → RW X G RX11 cX11_addNeed 3 (x_rm 1 0 0) n SH (ndM MI r L) ML MR 0 0 2 [(2, .int (nI i)), (0, .ref 124), (1, .int x)] [] := by
    refine bwd (fun i hi ih hk => ?_)
    refine r_iload_n 0 rfl dX11_addNeed_2 ?_
    refine r_aload_n 1 rfl dX11_addNeed_3 ?_
    refine r_geti dX11_addNeed_4 fl_X11_358 rfl ?_
    refine r_icmpge (tgt := 27) dX11_addNeed_7 (by decide) (fun zh7 => ?_) (fun zh7 => ?_)
    · rw [ndM_c] at zh7
      have hie : i = L.length := by have := geL (k := L.length) (by omega) (by omega) zh7; omega
      refine r_aload_n 1 rfl dX11_addNeed_27 ?_
      refine r_getr dX11_addNeed_28 fl_X11_65 rfl (hM _ _ _ rfl) ?_
      refine r_aload_n 1 rfl dX11_addNeed_31 ?_
      refine r_geti dX11_addNeed_32 fl_X11_358 rfl ?_
      refine r_iload_n 2 rfl dX11_addNeed_35 ?_
      refine r_iast dX11_addNeed_36 rfl (by rw [ndM_c]; exact vp_in_nI hL (by decide)) ?_
      refine r_aload_n 1 rfl dX11_addNeed_37 ?_
      refine r_dup rfl dX11_addNeed_38 ?_
      refine r_geti dX11_addNeed_39 fl_X11_358 rfl ?_
      refine r_iconst (v := 1) rfl dX11_addNeed_42 ?_
      refine r_iadd dX11_addNeed_43 ?_
      refine r_puti dX11_addNeed_44 fl_X11_358 rfl rfl rfl ?_
      exact r_vret hG dX11_addNeed_47 (by
          rw [show addL L x = L ++ [x] from if_neg (fun z => by obtain ⟨k, h1, h2⟩ := mem_getD.mp z; exact hk k (by omega) h2)]
          refine ⟨rfl, ?_, rfl, rfl⟩
          rw [u2_row _ _ (show (124 : Nat) ≠ 139 by decide), ndM_c, nI_clamp (by omega), nI_1]
          unfold ndM
          rw [List.length_append, ← layL_app]
          show _ = u2 (sr MI 139 (up (layL r L) L.length x)) 124 32 (nI (L.length + 1))
          funext b j
          simp only [u2, sr, up]
          grind)
    · rw [ndM_c] at zh7
      have hlt : i < L.length := ltL (by omega) zh7
      refine r_aload_n 1 rfl dX11_addNeed_10 ?_
      refine r_getr dX11_addNeed_11 fl_X11_65 rfl (hM _ _ _ rfl) ?_
      refine r_iload_n 0 rfl dX11_addNeed_14 ?_
      refine r_iald dX11_addNeed_15 rfl (vp_in_nI (show i < 41 by omega) (by decide)) ?_
      refine r_iload_n 2 rfl dX11_addNeed_16 ?_
      refine r_icmpne (tgt := 21) dX11_addNeed_17 (by decide) (fun zh17 => ?_) (fun zh17 => ?_)
      · rw [ndM_r, nI_clamp (by omega), layL_lt hlt] at zh17
        refine r_iinc (v := (nI (i + 1))) (ls2 := [(2, .int (nI (i + 1))), (0, .ref 124), (1, .int x)]) 0 dX11_addNeed_21 rfl (x_inc i) (by decide) rfl ?_
        refine r_goto (tgt := 2) dX11_addNeed_24 (by decide) ?_
        refine ih hlt (fun k hk2 => ?_)
        rcases Nat.lt_or_ge k i with q | q
        · exact hk k q
        · obtain rfl : k = i := by omega
          exact zh17
      · rw [ndM_r, nI_clamp (by omega), layL_lt hlt] at zh17
        exact r_vret hG dX11_addNeed_20 (by rw [show addL L x = L from if_pos (mem_getD.mpr ⟨i, hlt, zh17⟩)]; exact ⟨rfl, rfl, rfl, rfl⟩)
  refine r_iconst (v := 0) rfl dX11_addNeed_0 ?_
  refine r_istore_n (ls2 := [(2, .int 0), (0, .ref 124), (1, .int x)]) dX11_addNeed_1 (by decide) rfl ?_
  exact loop 0 (Nat.zero_le _) (fun k hk => absurd hk (Nat.not_lt_zero k))
theorem addAll_le (L xs : List Int32) : L.length ≤ (addAll L xs).length := by
  induction xs generalizing L with
  | nil => exact Nat.le_refl _
  | cons x xs ih =>
    have h1 := ih (addL L x)
    have h2 : L.length ≤ (addL L x).length := by
      unfold addL
      split
      · exact Nat.le_refl _
      · rw [List.length_append]; omega
    exact Nat.le_trans h2 h1
theorem t_needsByArc (hM : x_Lay MR) {A S i : Nat} (hA : A ≤ 8) (hS : S ≤ 6) (hP : okA (arR MI) A S) (hi : i < A) {r : Nat → Int32} {L : List Int32} {x : Int32} (hL : L.length ≤ 36) : Cf X yX11_needsByArc cX11_needsByArc 6 none 4 [.ref 124, .int x, .int (nI i)] n SH (ndM MI r L) ML MR none (ndM MI r (addAll L (nqA MI x i))) ML MR := by
  refine Ct_of (by decide) (Nat.le_of_ble_eq_true rfl) (fun G hG => ?_)
  obtain ⟨⟨f, hf, hfe⟩, ⟨g, hg, hge⟩⟩ := hP i hi
  have hi8 : i < 8 := by omega
  have hPn : ∀ L, okA (arR (ndM MI r L)) A S := fun L => hP
  obtain ⟨isb, hisb⟩ : ∃ isb, isb = bitR (valV (MI 136) (MI 128) (nI f)) x := ⟨_, rfl⟩
  obtain ⟨ist, hist⟩ : ∃ ist, ist = bitR (valV (MI 136) (MI 128) (nI g)) x := ⟨_, rfl⟩
  obtain ⟨fr, hfr⟩ : ∃ fr, fr = arR MI i 2 ||| arR MI i 3 := ⟨_, rfl⟩
  have tO : ∀ (L : List Int32) (k : Nat), k < 6 → Cf X yX11_isOne cX11_isOne 3 (some .boolean) 3 [.ref 124, .int x, .int (nI k)] n SH (ndM MI r L) ML MR (some (.int (b2 (bitR (valV (MI 136) (MI 128) (nI k)) x)))) (ndM MI r L) ML MR := fun L k hk => c_X11_isOne (MI := ndM MI r L) hM hk
  have tA : ∀ (L : List Int32) (j : Nat), j < 6 → Cf X yX11_arcOf cX11_arcOf 3 (some .int) 1 [.ref 124, .int (nI i), .int (nI j)] n SH (ndM MI r L) ML MR (some (.int (arR MI i j))) (ndM MI r L) ML MR := fun L j hj => c_X11_arcOf (MI := ndM MI r L) hM hi8 hj
  have tB : ∀ L : List Int32, Cf X yX11_burstCube cX11_burstCube 2 (some .int) 3 [.ref 124, .int (nI i)] n SH (ndM MI r L) ML MR (some (.int (bcR MI i))) (ndM MI r L) ML MR := fun L => c_X11_burstCube (MI := ndM MI r L) hM hA hS (hPn L) hi
  have tT : ∀ L : List Int32, Cf X yX11_turnCube cX11_turnCube 2 (some .int) 3 [.ref 124, .int (nI i)] n SH (ndM MI r L) ML MR (some (.int (tcR MI i))) (ndM MI r L) ML MR := fun L => c_X11_turnCube (MI := ndM MI r L) hM hA hS (hPn L) hi
  have tC : ∀ L : List Int32, Cf X yX11_changed cX11_changed 2 (some .int) 2 [.ref 124, .int (nI i)] n SH (ndM MI r L) ML MR (some (.int fr)) (ndM MI r L) ML MR := fun L => by rw [hfr]; exact c_X11_changed (MI := ndM MI r L) hM hi8
  have tP : ∀ L : List Int32, Cf X yX11_pointOf cX11_pointOf 2 (some .int) 2 [.ref 124, .int (nI f)] n SH (ndM MI r L) ML MR (some (.int (pointV (MI 135) (MI 128) (nI f)))) (ndM MI r L) ML MR := fun L => c_X11_pointOf (MI := ndM MI r L) hM (show f < 6 by omega)
  have hnq : nqA MI x i = (if isb = true ∧ ist = true then [bcR MI i] else []) ++ ((if isb = true ∧ ist = false then nqF (pointV (MI 135) (MI 128) (nI f)) fr 4 else []) ++ (if ist = true then [tcR MI i] else [])) := by
    unfold nqA
    simp only
    rw [hfe, hge, ← hisb, ← hist, ← hfr]
  obtain ⟨L1, hL1⟩ : ∃ L1, L1 = addAll L (if isb = true ∧ ist = true then [bcR MI i] else []) := ⟨_, rfl⟩
  have hL1l : L1.length ≤ 37 := by
    rw [hL1]
    by_cases hc : isb = true ∧ ist = true
    · rw [if_pos hc]
      have := addAll_len [bcR MI i] L
      simp only [List.length_cons, List.length_nil] at this
      omega
    · rw [if_neg hc]
      exact Nat.le_trans hL (by decide)
  have hfin : addAll L (nqA MI x i) = addAll (addAll L1 (if isb = true ∧ ist = false then nqF (pointV (MI 135) (MI 128) (nI f)) fr 4 else [])) (if ist = true then [tcR MI i] else []) := by
    rw [hnq, addAll_app, addAll_app, ← hL1]
  rw [hfin] at hG
  have loop : ∀ k, k ≤ 4 → RW X G RX11 cX11_needsByArc 6 (x_rm 4 0 0) n SH (ndM MI r (addAll L1 (if isb = true ∧ ist = false then nqF (pointV (MI 135) (MI 128) (nI f)) fr k else []))) ML MR 0 0 46 [(5, .int (nI k)), (4, .int (b2 ist)), (3, .int (b2 isb)), (0, .ref 124), (1, .int x), (2, .int (nI i))] [] := by
    refine bwd (fun k hk ih => ?_)
    have hlen : isb = true ∧ ist = false → (addAll L1 (nqF (pointV (MI 135) (MI 128) (nI f)) fr k)).length < 41 := fun hh => by
      have h1 := addAll_len (nqF (pointV (MI 135) (MI 128) (nI f)) fr k) L1
      have h2 := nqF_len (pointV (MI 135) (MI 128) (nI f)) fr k
      have h3 : L1.length ≤ 36 := by rw [hL1, if_neg (fun z => by rw [hh.2] at z; exact absurd z.2 (by decide))]; exact hL
      omega
    by_cases hh : isb = true ∧ ist = false
    · have hl2 := hlen hh
      have hst : k < 4 → addAll L1 (if isb = true ∧ ist = false then nqF (pointV (MI 135) (MI 128) (nI f)) fr (k + 1) else []) = if bitR fr (nI k) = true then addL (addAll L1 (nqF (pointV (MI 135) (MI 128) (nI f)) fr k)) (numC (pointV (MI 135) (MI 128) (nI f)) (fr &&& (((1 : Int32) <<< (nI k &&& 31)) ^^^ -1)) 6) else addAll L1 (nqF (pointV (MI 135) (MI 128) (nI f)) fr k) := fun _ => by
        rw [if_pos hh, nqF]
        split
        · rw [addAll_app]; rfl
        · rfl
      have hfn : k = 4 → addAll (addAll L1 (nqF (pointV (MI 135) (MI 128) (nI f)) fr 4)) (if ist = true then [tcR MI i] else []) = addAll L1 (nqF (pointV (MI 135) (MI 128) (nI f)) fr k) := fun e => by
        rw [e, if_neg (by rw [hh.2]; decide)]
        rfl
      rw [if_pos hh]
      rw [if_pos hh] at hG
      refine r_iload 0 rfl dX11_needsByArc_46 ?_
      refine r_iconst (v := 4) rfl dX11_needsByArc_48 ?_
      refine r_icmpge (tgt := 109) dX11_needsByArc_49 (by decide) (fun zh49 => ?_) (fun zh49 => ?_)
      · have hke : k = 4 := by have := geL (k := 4) (by decide) (by omega) zh49; omega
        refine r_iload 1 rfl dX11_needsByArc_109 ?_
        refine r_ifeq (tgt := 123) dX11_needsByArc_111 (by decide) (fun zh111 => ?_) (fun zh111 => ?_)
        rotate_left
        · exact absurd zh111 (fun q => q (by rw [hh.2]; rfl))
        exact r_vret hG dX11_needsByArc_123 (by rw [hfn hke]; exact ⟨rfl, rfl, rfl, rfl⟩)
      · have hlt : k < 4 := ltL (by omega) zh49
        have zq := ih hlt
        rw [hst hlt] at zq
        refine r_iload_n 2 rfl dX11_needsByArc_52 ?_
        refine r_ifeq (tgt := 103) dX11_needsByArc_53 (by decide) (fun zh53 => ?_) (fun zh53 => ?_)
        · exact absurd zh53 (by rw [hh.1]; decide)
        refine r_iload 1 rfl dX11_needsByArc_56 ?_
        refine r_ifne (tgt := 103) dX11_needsByArc_58 (by decide) (fun zh58 => ?_) (fun zh58 => ?_)
        · exact absurd zh58 (fun q => q (by rw [hh.2]; rfl))
        refine r_aload_n 3 rfl dX11_needsByArc_61 ?_
        refine r_iload_n 5 rfl dX11_needsByArc_62 ?_
        refine r_Vf [.int _] dX11_needsByArc_63 lk_X11_307 mb_X11_changed in_X11_changed se_X11_changed rfl (tC _) rfl rfl rfl (Nat.le_of_ble_eq_true rfl) (rfl) ?_
        refine r_iload 0 rfl dX11_needsByArc_66 ?_
        refine r_Sf [.int _, .int _] dX11_needsByArc_68 lk_X11_114 mb_X11_bit sc_X11_bit rfl (c_X11_bit) rfl (Nat.le_of_ble_eq_true rfl) (rfl) ?_
        refine r_ifeq (tgt := 103) dX11_needsByArc_71 (by decide) (fun zh71 => ?_) (fun zh71 => ?_)
        · refine r_iinc (v := (nI (k + 1))) (ls2 := [(5, .int (nI (k + 1))), (4, .int (b2 ist)), (3, .int (b2 isb)), (0, .ref 124), (1, .int x), (2, .int (nI i))]) 0 dX11_needsByArc_103 rfl (x_inc k) (by decide) rfl ?_
          refine r_goto (tgt := 46) dX11_needsByArc_106 (by decide) ?_
          first
            | (have z1 : bitR fr (nI k) = true := b2n.mp zh71
               rw [if_pos z1] at zq; exact zq)
            | (have z1 : ¬ bitR fr (nI k) = true := by rw [b2z.mp zh71]; decide
               rw [if_neg z1] at zq; exact zq)
        · refine r_aload_n 3 rfl dX11_needsByArc_74 ?_
          refine r_aload_n 3 rfl dX11_needsByArc_75 ?_
          refine r_aload_n 3 rfl dX11_needsByArc_76 ?_
          refine r_iload_n 5 rfl dX11_needsByArc_77 ?_
          refine r_iconst (v := 0) rfl dX11_needsByArc_78 ?_
          refine r_Vf [.int _, .int _] dX11_needsByArc_79 lk_X11_270 mb_X11_arcOf in_X11_arcOf se_X11_arcOf rfl (tA _ 0 (by decide)) rfl rfl rfl (Nat.le_of_ble_eq_true rfl) (rfl) ?_
          rw [hfe]
          refine r_Vf [.int _] dX11_needsByArc_82 lk_X11_313 mb_X11_pointOf in_X11_pointOf se_X11_pointOf rfl (tP _) rfl rfl rfl (Nat.le_of_ble_eq_true rfl) (rfl) ?_
          refine r_aload_n 3 rfl dX11_needsByArc_85 ?_
          refine r_iload_n 5 rfl dX11_needsByArc_86 ?_
          refine r_Vf [.int _] dX11_needsByArc_87 lk_X11_307 mb_X11_changed in_X11_changed se_X11_changed rfl (tC _) rfl rfl rfl (Nat.le_of_ble_eq_true rfl) (rfl) ?_
          refine r_iconst (v := 1) rfl dX11_needsByArc_90 ?_
          refine r_iload 0 rfl dX11_needsByArc_91 ?_
          refine r_ishl dX11_needsByArc_93 ?_
          refine r_iconst (v := (-1)) rfl dX11_needsByArc_94 ?_
          refine r_ixor dX11_needsByArc_95 ?_
          refine r_iand dX11_needsByArc_96 ?_
          refine r_Sf [.int _, .int _] dX11_needsByArc_97 lk_X11_245 mb_X11_cubeOf sc_X11_cubeOf rfl (c_X11_cubeOf) rfl (Nat.le_of_ble_eq_true rfl) (rfl) ?_
          refine r_Vn [.int _] dX11_needsByArc_100 lk_X11_364 mb_X11_addNeed in_X11_addNeed se_X11_addNeed rfl (t_addNeed hM hl2) rfl rfl rfl (Nat.le_of_ble_eq_true rfl) (rfl) ?_
          refine r_iinc (v := (nI (k + 1))) (ls2 := [(5, .int (nI (k + 1))), (4, .int (b2 ist)), (3, .int (b2 isb)), (0, .ref 124), (1, .int x), (2, .int (nI i))]) 0 dX11_needsByArc_103 rfl (x_inc k) (by decide) rfl ?_
          refine r_goto (tgt := 46) dX11_needsByArc_106 (by decide) ?_
          first
            | (have z1 : bitR fr (nI k) = true := b2n.mp zh71
               rw [if_pos z1] at zq; exact zq)
            | (have z1 : ¬ bitR fr (nI k) = true := by rw [b2z.mp zh71]; decide
               rw [if_neg z1] at zq; exact zq)
    · rw [if_neg hh]
      rw [if_neg hh] at hG
      simp only [if_neg hh] at ih
      have e1 : addAll L1 [] = L1 := rfl
      rw [e1] at ih hG ⊢
      refine r_iload 0 rfl dX11_needsByArc_46 ?_
      refine r_iconst (v := 4) rfl dX11_needsByArc_48 ?_
      refine r_icmpge (tgt := 109) dX11_needsByArc_49 (by decide) (fun zh49 => ?_) (fun zh49 => ?_)
      · refine r_iload 1 rfl dX11_needsByArc_109 ?_
        refine r_ifeq (tgt := 123) dX11_needsByArc_111 (by decide) (fun zh111 => ?_) (fun zh111 => ?_)
        · exact r_vret hG dX11_needsByArc_123 (by
              first
                | (have z1 : ist = true := b2n.mp zh111
                   rw [if_pos z1]; exact ⟨rfl, rfl, rfl, rfl⟩)
                | (have z1 : ¬ ist = true := by rw [b2z.mp zh111]; decide
                   rw [if_neg z1]; exact ⟨rfl, rfl, rfl, rfl⟩))
        · refine r_aload_n 3 rfl dX11_needsByArc_114 ?_
          refine r_aload_n 3 rfl dX11_needsByArc_115 ?_
          refine r_iload_n 5 rfl dX11_needsByArc_116 ?_
          refine r_Vf [.int _] dX11_needsByArc_117 lk_X11_367 mb_X11_turnCube in_X11_turnCube se_X11_turnCube rfl (tT _) rfl rfl rfl (Nat.le_of_ble_eq_true rfl) (rfl) ?_
          refine r_Vn [.int _] dX11_needsByArc_120 lk_X11_364 mb_X11_addNeed in_X11_addNeed se_X11_addNeed rfl (t_addNeed hM (show L1.length < 41 by omega)) rfl rfl rfl (Nat.le_of_ble_eq_true rfl) (rfl) ?_
          exact r_vret hG dX11_needsByArc_123 (by
              first
                | (have z1 : ist = true := b2n.mp zh111
                   rw [if_pos z1]; exact ⟨rfl, rfl, rfl, rfl⟩)
                | (have z1 : ¬ ist = true := by rw [b2z.mp zh111]; decide
                   rw [if_neg z1]; exact ⟨rfl, rfl, rfl, rfl⟩))
      · have hlt : k < 4 := ltL (by omega) zh49
        refine r_iload_n 2 rfl dX11_needsByArc_52 ?_
        refine r_ifeq (tgt := 103) dX11_needsByArc_53 (by decide) (fun zh53 => ?_) (fun zh53 => ?_)
        · refine r_iinc (v := (nI (k + 1))) (ls2 := [(5, .int (nI (k + 1))), (4, .int (b2 ist)), (3, .int (b2 isb)), (0, .ref 124), (1, .int x), (2, .int (nI i))]) 0 dX11_needsByArc_103 rfl (x_inc k) (by decide) rfl ?_
          refine r_goto (tgt := 46) dX11_needsByArc_106 (by decide) ?_
          exact ih hlt
        · refine r_iload 1 rfl dX11_needsByArc_56 ?_
          refine r_ifne (tgt := 103) dX11_needsByArc_58 (by decide) (fun zh58 => ?_) (fun zh58 => ?_)
          · refine r_iinc (v := (nI (k + 1))) (ls2 := [(5, .int (nI (k + 1))), (4, .int (b2 ist)), (3, .int (b2 isb)), (0, .ref 124), (1, .int x), (2, .int (nI i))]) 0 dX11_needsByArc_103 rfl (x_inc k) (by decide) rfl ?_
            refine r_goto (tgt := 46) dX11_needsByArc_106 (by decide) ?_
            exact ih hlt
          · exact absurd ⟨b2n.mp zh53, b2z.mp zh58⟩ hh
  refine r_aload_n 0 rfl dX11_needsByArc_0 ?_
  refine r_iload_n 1 rfl dX11_needsByArc_1 ?_
  refine r_aload_n 0 rfl dX11_needsByArc_2 ?_
  refine r_iload_n 2 rfl dX11_needsByArc_3 ?_
  refine r_iconst (v := 0) rfl dX11_needsByArc_4 ?_
  refine r_Vf [.int _, .int _] dX11_needsByArc_5 lk_X11_270 mb_X11_arcOf in_X11_arcOf se_X11_arcOf rfl (tA _ 0 (by decide)) rfl rfl rfl (Nat.le_of_ble_eq_true rfl) (rfl) ?_
  rw [hfe]
  refine r_Vf [.int _, .int _] dX11_needsByArc_8 lk_X11_355 mb_X11_isOne in_X11_isOne se_X11_isOne rfl (tO _ f (by omega)) rfl rfl rfl (Nat.le_of_ble_eq_true rfl) (rfl) ?_
  rw [← hisb]
  refine r_istore_n (ls2 := [(3, .int (b2 isb)), (0, .ref 124), (1, .int x), (2, .int (nI i))]) dX11_needsByArc_11 (by decide) rfl ?_
  refine r_aload_n 1 rfl dX11_needsByArc_12 ?_
  refine r_iload_n 2 rfl dX11_needsByArc_13 ?_
  refine r_aload_n 1 rfl dX11_needsByArc_14 ?_
  refine r_iload_n 3 rfl dX11_needsByArc_15 ?_
  refine r_iconst (v := 1) rfl dX11_needsByArc_16 ?_
  refine r_Vf [.int _, .int _] dX11_needsByArc_17 lk_X11_270 mb_X11_arcOf in_X11_arcOf se_X11_arcOf rfl (tA _ 1 (by decide)) rfl rfl rfl (Nat.le_of_ble_eq_true rfl) (rfl) ?_
  rw [hge]
  refine r_Vf [.int _, .int _] dX11_needsByArc_20 lk_X11_355 mb_X11_isOne in_X11_isOne se_X11_isOne rfl (tO _ g (by omega)) rfl rfl rfl (Nat.le_of_ble_eq_true rfl) (rfl) ?_
  rw [← hist]
  refine r_istore (ls2 := [(4, .int (b2 ist)), (3, .int (b2 isb)), (0, .ref 124), (1, .int x), (2, .int (nI i))]) dX11_needsByArc_23 (by decide) rfl ?_
  refine r_iload_n 1 rfl dX11_needsByArc_25 ?_
  refine r_ifeq (tgt := 43) dX11_needsByArc_26 (by decide) (fun zh26 => ?_) (fun zh26 => ?_)
  · refine r_iconst (v := 0) rfl dX11_needsByArc_43 ?_
    refine r_istore (ls2 := [(5, .int 0), (4, .int (b2 ist)), (3, .int (b2 isb)), (0, .ref 124), (1, .int x), (2, .int (nI i))]) dX11_needsByArc_44 (by decide) rfl ?_
    have zq := loop 0 (by decide)
    have e0 : addAll L1 (if isb = true ∧ ist = false then nqF (pointV (MI 135) (MI 128) (nI f)) fr 0 else []) = L1 := by split <;> rfl
    rw [e0, hL1] at zq
    first
      | (have z1 : isb = true ∧ ist = true := ⟨b2n.mp zh26, b2n.mp zh31⟩
         rw [if_pos z1] at zq; exact r_sub [0, 1, 2, 3, 4, 5] rfl zq)
      | (have z1 : ¬ (isb = true ∧ ist = true) := fun q => absurd q.2 (by rw [b2z.mp zh31]; decide)
         rw [if_neg z1] at zq; exact r_sub [0, 1, 2, 3, 4, 5] rfl zq)
      | (have z1 : ¬ (isb = true ∧ ist = true) := fun q => absurd q.1 (by rw [b2z.mp zh26]; decide)
         rw [if_neg z1] at zq; exact r_sub [0, 1, 2, 3, 4, 5] rfl zq)
  · refine r_iload 0 rfl dX11_needsByArc_29 ?_
    refine r_ifeq (tgt := 43) dX11_needsByArc_31 (by decide) (fun zh31 => ?_) (fun zh31 => ?_)
    · refine r_iconst (v := 0) rfl dX11_needsByArc_43 ?_
      refine r_istore (ls2 := [(5, .int 0), (4, .int (b2 ist)), (3, .int (b2 isb)), (0, .ref 124), (1, .int x), (2, .int (nI i))]) dX11_needsByArc_44 (by decide) rfl ?_
      have zq := loop 0 (by decide)
      have e0 : addAll L1 (if isb = true ∧ ist = false then nqF (pointV (MI 135) (MI 128) (nI f)) fr 0 else []) = L1 := by split <;> rfl
      rw [e0, hL1] at zq
      first
        | (have z1 : isb = true ∧ ist = true := ⟨b2n.mp zh26, b2n.mp zh31⟩
           rw [if_pos z1] at zq; exact r_sub [0, 1, 2, 3, 4, 5] rfl zq)
        | (have z1 : ¬ (isb = true ∧ ist = true) := fun q => absurd q.2 (by rw [b2z.mp zh31]; decide)
           rw [if_neg z1] at zq; exact r_sub [0, 1, 2, 3, 4, 5] rfl zq)
        | (have z1 : ¬ (isb = true ∧ ist = true) := fun q => absurd q.1 (by rw [b2z.mp zh26]; decide)
           rw [if_neg z1] at zq; exact r_sub [0, 1, 2, 3, 4, 5] rfl zq)
    · refine r_aload_n 2 rfl dX11_needsByArc_34 ?_
      refine r_aload_n 2 rfl dX11_needsByArc_35 ?_
      refine r_iload_n 4 rfl dX11_needsByArc_36 ?_
      refine r_Vf [.int _] dX11_needsByArc_37 lk_X11_361 mb_X11_burstCube in_X11_burstCube se_X11_burstCube rfl (tB _) rfl rfl rfl (Nat.le_of_ble_eq_true rfl) (rfl) ?_
      refine r_Vn [.int _] dX11_needsByArc_40 lk_X11_364 mb_X11_addNeed in_X11_addNeed se_X11_addNeed rfl (t_addNeed hM (show L.length < 41 by omega)) rfl rfl rfl (Nat.le_of_ble_eq_true rfl) (rfl) ?_
      refine r_iconst (v := 0) rfl dX11_needsByArc_43 ?_
      refine r_istore (ls2 := [(5, .int 0), (4, .int (b2 ist)), (3, .int (b2 isb)), (0, .ref 124), (1, .int x), (2, .int (nI i))]) dX11_needsByArc_44 (by decide) rfl ?_
      have zq := loop 0 (by decide)
      have e0 : addAll L1 (if isb = true ∧ ist = false then nqF (pointV (MI 135) (MI 128) (nI f)) fr 0 else []) = L1 := by split <;> rfl
      rw [e0, hL1] at zq
      first
        | (have z1 : isb = true ∧ ist = true := ⟨b2n.mp zh26, b2n.mp zh31⟩
           rw [if_pos z1] at zq; exact r_sub [0, 1, 2, 3, 4, 5] rfl zq)
        | (have z1 : ¬ (isb = true ∧ ist = true) := fun q => absurd q.2 (by rw [b2z.mp zh31]; decide)
           rw [if_neg z1] at zq; exact r_sub [0, 1, 2, 3, 4, 5] rfl zq)
        | (have z1 : ¬ (isb = true ∧ ist = true) := fun q => absurd q.1 (by rw [b2z.mp zh26]; decide)
           rw [if_neg z1] at zq; exact r_sub [0, 1, 2, 3, 4, 5] rfl zq)
set_option maxRecDepth 100000 in
theorem c_X11_needsOf (hM : x_Lay MR) {A S b : Nat} (hA : A ≤ 8) (hS : S ≤ 6) (hAr : MI 128 6 = nI A) (hP : okA (arR MI) A S) (hb : b < 6) (hbr : MI 130 1 = nI b) {x : Int32} : Cf X yX11_needsOf cX11_needsOf 3 none 5 [.ref 124, .int x] n SH MI ML MR none (ndM MI (MI 139) (rqL MI x A b)) ML MR := by
  refine Ct_of (by decide) (Nat.le_of_ble_eq_true rfl) (fun G hG => ?_)
  have c6 : (6 : Int32).toNatClampNeg = 6 := rfl
  have c1 : (1 : Int32).toNatClampNeg = 1 := rfl
  have e130 : ∀ L, ndM MI (MI 139) L 130 1 = nI b := fun L => by rw [ndM_b (by decide) (by decide), hbr]
  have e128 : ∀ L, ndM MI (MI 139) L 128 6 = nI A := fun L => by rw [ndM_b (by decide) (by decide), hAr]
  have tO : ∀ (L : List Int32), Cf X yX11_isOne cX11_isOne 3 (some .boolean) 3 [.ref 124, .int x, .int (nI b)] n SH (ndM MI (MI 139) L) ML MR (some (.int (b2 (bitR (valV (MI 136) (MI 128) (nI b)) x)))) (ndM MI (MI 139) L) ML MR := fun L => c_X11_isOne (MI := ndM MI (MI 139) L) hM hb
  have tP : ∀ L : List Int32, Cf X yX11_pointOf cX11_pointOf 2 (some .int) 2 [.ref 124, .int (nI b)] n SH (ndM MI (MI 139) L) ML MR (some (.int (pointV (MI 135) (MI 128) (nI b)))) (ndM MI (MI 139) L) ML MR := fun L => c_X11_pointOf (MI := ndM MI (MI 139) L) hM hb
  have loop : ∀ i, i ≤ A → RW X G RX11 cX11_needsOf 3 (x_rm 5 0 0) n SH (ndM MI (MI 139) (rqA MI x i)) ML MR 0 0 7 [(2, .int (nI i)), (0, .ref 124), (1, .int x)] [] := by
    refine bwd (fun i hi ih => ?_)
    have hlen := rqA_len MI x i
    refine r_iload_n 0 rfl dX11_needsOf_7 ?_
    refine r_aload_n 1 rfl dX11_needsOf_8 ?_
    refine r_getr dX11_needsOf_9 fl_X11_31 rfl (hM _ _ _ rfl) ?_
    refine r_bipush (v := 6) rfl dX11_needsOf_12 ?_
    refine r_iald dX11_needsOf_14 rfl (vpk (k := 6) (by decide) (by decide) rfl) ?_
    refine r_icmpge (tgt := 30) dX11_needsOf_15 (by decide) (fun zh15 => ?_) (fun zh15 => ?_)
    · rw [c6, e128] at zh15
      obtain rfl : A = i := by have := geL (k := A) (by omega) (by omega) zh15; omega
      refine r_aload_n 1 rfl dX11_needsOf_30 ?_
      refine r_iload_n 2 rfl dX11_needsOf_31 ?_
      refine r_aload_n 1 rfl dX11_needsOf_32 ?_
      refine r_getr dX11_needsOf_33 fl_X11_37 rfl (hM _ _ _ rfl) ?_
      refine r_iconst (v := 1) rfl dX11_needsOf_36 ?_
      refine r_iald dX11_needsOf_37 rfl (vpk (k := 1) (by decide) (by decide) rfl) ?_
      rw [c1, e130]
      refine r_Vf [.int _, .int _] dX11_needsOf_38 lk_X11_355 mb_X11_isOne in_X11_isOne se_X11_isOne rfl (tO _) rfl rfl rfl (Nat.le_of_ble_eq_true rfl) (rfl) ?_
      refine r_ifeq (tgt := 62) dX11_needsOf_41 (by decide) (fun zh41 => ?_) (fun zh41 => ?_)
      · exact r_vret hG dX11_needsOf_62 (by
            unfold rqL
            first
              | (have z1 : bitR (valV (MI 136) (MI 128) (nI b)) x = true := b2n.mp zh41
                 rw [if_pos z1]; exact ⟨rfl, rfl, rfl, rfl⟩)
              | (have z1 : ¬ bitR (valV (MI 136) (MI 128) (nI b)) x = true := by rw [b2z.mp zh41]; decide
                 rw [if_neg z1]; exact ⟨rfl, rfl, rfl, rfl⟩))
      · refine r_aload_n 1 rfl dX11_needsOf_44 ?_
        refine r_aload_n 1 rfl dX11_needsOf_45 ?_
        refine r_aload_n 1 rfl dX11_needsOf_46 ?_
        refine r_getr dX11_needsOf_47 fl_X11_37 rfl (hM _ _ _ rfl) ?_
        refine r_iconst (v := 1) rfl dX11_needsOf_50 ?_
        refine r_iald dX11_needsOf_51 rfl (vpk (k := 1) (by decide) (by decide) rfl) ?_
        rw [c1, e130]
        refine r_Vf [.int _] dX11_needsOf_52 lk_X11_313 mb_X11_pointOf in_X11_pointOf se_X11_pointOf rfl (tP _) rfl rfl rfl (Nat.le_of_ble_eq_true rfl) (rfl) ?_
        refine r_iconst (v := 0) rfl dX11_needsOf_55 ?_
        refine r_Sf [.int _, .int _] dX11_needsOf_56 lk_X11_245 mb_X11_cubeOf sc_X11_cubeOf rfl (c_X11_cubeOf) rfl (Nat.le_of_ble_eq_true rfl) (rfl) ?_
        refine r_Vn [.int _] dX11_needsOf_59 lk_X11_364 mb_X11_addNeed in_X11_addNeed se_X11_addNeed rfl (t_addNeed hM (show (rqA MI x A).length < 41 by omega)) rfl rfl rfl (Nat.le_of_ble_eq_true rfl) (rfl) ?_
        exact r_vret hG dX11_needsOf_62 (by
            unfold rqL
            first
              | (have z1 : bitR (valV (MI 136) (MI 128) (nI b)) x = true := b2n.mp zh41
                 rw [if_pos z1]; exact ⟨rfl, rfl, rfl, rfl⟩)
              | (have z1 : ¬ bitR (valV (MI 136) (MI 128) (nI b)) x = true := by rw [b2z.mp zh41]; decide
                 rw [if_neg z1]; exact ⟨rfl, rfl, rfl, rfl⟩))
    · rw [c6, e128] at zh15
      have hlt : i < A := ltL (by omega) zh15
      refine r_aload_n 1 rfl dX11_needsOf_18 ?_
      refine r_iload_n 2 rfl dX11_needsOf_19 ?_
      refine r_iload_n 0 rfl dX11_needsOf_20 ?_
      refine r_Vn [.int _, .int _] dX11_needsOf_21 lk_X11_370 mb_X11_needsByArc in_X11_needsByArc se_X11_needsByArc rfl (t_needsByArc hM hA hS hP hlt (show (rqA MI x i).length ≤ 36 by omega)) rfl rfl rfl (Nat.le_of_ble_eq_true rfl) (rfl) ?_
      refine r_iinc (v := (nI (i + 1))) (ls2 := [(2, .int (nI (i + 1))), (0, .ref 124), (1, .int x)]) 0 dX11_needsOf_24 rfl (x_inc i) (by decide) rfl ?_
      refine r_goto (tgt := 7) dX11_needsOf_27 (by decide) ?_
      exact ih hlt
  refine r_aload_n 0 rfl dX11_needsOf_0 ?_
  refine r_iconst (v := 0) rfl dX11_needsOf_1 ?_
  refine r_puti dX11_needsOf_2 fl_X11_358 rfl rfl rfl ?_
  refine r_iconst (v := 0) rfl dX11_needsOf_5 ?_
  refine r_istore_n (ls2 := [(2, .int 0), (0, .ref 124), (1, .int x)]) dX11_needsOf_6 (by decide) rfl ?_
  refine r_mem ?_ rfl rfl (loop 0 (Nat.zero_le _))
  unfold ndM
  rw [show rqA MI x 0 = [] from rfl, layL_nil, sr_id]
  rfl
end rneeds

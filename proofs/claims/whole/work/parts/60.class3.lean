/-! the desk: runs, feedback, what is shown, codes -/
def rgV (MI : Mi) (ML : Nat → Nat → Int64) (x : Int32) (kn : Int64) : Nat → Int32
  | 0 => 0
  | k + 1 => if MI 12 k = x then strongV (rgV MI ML x kn k) (prodV (ptsV ML (MI 13 k)) kn) else rgV MI ML x kn k
theorem hasF_ex {x : Int32} (h : hasF x = true) : ∃ K, K ≤ 5 ∧ x = nI K := by
  have h2 := of_decide_eq_true h
  obtain ⟨j, hj, e⟩ := nI_of2 (x := x) (M := 5) (n := 5) (by decide) h2.1 (Int32.not_lt.mp h2.2)
  exact ⟨j, hj, e⟩
def sK (W : Mi) (f : Nat) : Nat := (W (89 + 7 * f) 13).toNatClampNeg
theorem sK_e {W : Mi} {f : Nat} (h : hasF (W (89 + 7 * f) 13) = true) : sK W f ≤ 5 ∧ W (89 + 7 * f) 13 = nI (sK W f) := by
  obtain ⟨K, hK, e⟩ := hasF_ex h
  unfold sK
  rw [e, nI_clamp (by omega)]
  exact ⟨hK, rfl⟩
/-- a RUN by FEWEST -/
def rsV (W : Mi) (B : Nat → Nat → Int64) (f : Nat) (kn : Int64) : Int32 := runV (choP W B (89 + 7 * f)) kn (sK W f)
def shQB (MI : Mi) (ML : Nat → Nat → Int64) (MR : Nat → Nat → Option Nat) (A : Nat) (x : Int32) (ans : Mi → (Nat → Nat → Int64) → Int32 × Int32) : xQ := fun r W B C => C = MR ∧ shE MI ML A W B ∧ r = some (.int (ans W B).1) ∧ W 0 8 = (ans W B).2 ∧ (funTr W x = 0 → W (89 + 7 * x.toNatClampNeg) 4 = 1)
theorem rsV_u {W : Mi} {B : Nat → Nat → Int64} {f : Nat} {kn : Int64} {w : Int32} : rsV (u2 W 0 8 w) B f kn = rsV W B f kn := by
  have e : ∀ b, b ≠ 0 → u2 W 0 8 w b = W b := fun b h => u2_row _ _ h
  unfold rsV sK choP
  rw [e _ (by omega), e _ (by omega), e _ (by omega)]
theorem sqB_yes {MI W : Mi} {ML B : Nat → Nat → Int64} {MR : Nat → Nat → Option Nat} {A : Nat} {x y w : Int32} {ans : Mi → (Nat → Nat → Int64) → Int32 × Int32} (hE : shE MI ML A W B) (ha : ans (u2 W 0 8 w) B = (y, w)) (h4 : funTr W x = 0 → W (89 + 7 * x.toNatClampNeg) 4 = 1) : shQB MI ML MR A x ans (some (.int y)) (u2 W 0 8 w) B MR := ⟨rfl, shE_w hE, by rw [ha], by rw [ha]; exact u2_eq _ _ _ _, fun q => by rw [u2_row _ _ (by omega)]; exact h4 q⟩
def r1Ans (MI : Mi) (ML : Nat → Nat → Int64) (Gn : Nat) (x y : Int32) : Int32 × Int32 := if funTr MI x = 0 then (if inR y 729 = true then (rgV MI ML x (ptsV ML y) Gn, 0) else (-1, 2)) else (-1, funTr MI x)
def r0Ans (x y : Int32) (W : Mi) (B : Nat → Nat → Int64) : Int32 × Int32 := if fewTr W x = 0 then (if inR y 729 = true then (rsV W B x.toNatClampNeg (ptsV B y), 0) else (-1, 2)) else (-1, fewTr W x)
def b1Ans (MI : Mi) (ML : Nat → Nat → Int64) (Gn : Nat) (x y : Int32) : Int32 × Int32 := if inR x 5 = true ∧ inR y (MI 1 6) = true then (if funTr MI x = 0 then (rgV MI ML x (ptsV ML (MI 51 y.toNatClampNeg)) Gn, 0) else (-1, funTr MI x)) else (-1, 1)
def b0Ans (x y : Int32) (W : Mi) (B : Nat → Nat → Int64) : Int32 × Int32 := if inR x 5 = true ∧ inR y (W 1 6) = true then (if fewTr W x = 0 then (rsV W B x.toNatClampNeg (ptsV B (W 51 y.toNatClampNeg)), 0) else (-1, fewTr W x)) else (-1, 1)
theorem funTr_in {W : Mi} {x : Int32} (h : funTr W x = 0) : inR x 5 = true := by
  obtain ⟨⟨f, hf, rfl⟩, -⟩ := funTr_ex h
  exact inR_nI (N := 5) hf (by decide)
section class3
variable {X : xG} {n : Nat} {MI : Nat → Nat → Int32} {ML : Nat → Nat → Int64} {MR : Nat → Nat → Option Nat}
set_option maxRecDepth 100000 in
theorem c_X10_runWith_1 (hM : x_Lay MR) {Gn : Nat} (hG : Gn ≤ 16) (hGr : MI 1 8 = nI Gn) {x : Int32} {kn : Int64} : Cf X yX10_runWith cX10_runWith 7 (some .int) 2 [.ref 0, .int x, .long kn, .int 1] n SH MI ML MR (some (.int (rgV MI ML x kn Gn))) MI ML MR := by
  have hG2 := hG
  refine Ct_of (by decide) (Nat.le_of_ble_eq_true rfl) (fun G hG => ?_)
  have loop : ∀ g, g ≤ Gn → RW X G RX10 cX10_runWith 7 (x_rm 2 0 0) n SH MI ML MR 0 0 21 [(6, .int (nI g)), (5, .int (rgV MI ML x kn g)), (0, .ref 0), (1, .int x), (2, .long kn), (4, .int 1)] [] := by
    refine bwd (fun g hg ih => ?_)
    have p12 : g < Gn → pickV (MI 12) 16 (nI g) = MI 12 g := fun _ => pickV_nI _ (by omega) (by decide)
    have p13 : g < Gn → pickV (MI 13) 16 (nI g) = MI 13 g := fun _ => pickV_nI _ (by omega) (by decide)
    refine r_iload 0 rfl dX10_runWith_21 ?_
    refine r_aload_n 2 rfl dX10_runWith_23 ?_
    refine r_getr dX10_runWith_24 fl_X10_10 rfl (hM _ _ _ rfl) ?_
    refine r_geti dX10_runWith_27 fl_X10_163 rfl ?_
    refine r_icmpge (tgt := 85) dX10_runWith_30 (by decide) (fun zh30 => ?_) (fun zh30 => ?_)
    · rw [hGr] at zh30
      obtain rfl : Gn = g := by have := geL (k := Gn) (by omega) (by omega) zh30; omega
      refine r_iload 1 rfl dX10_runWith_85 ?_
      exact r_iret hG dX10_runWith_87 (⟨rfl, rfl, rfl, rfl⟩)
    · rw [hGr] at zh30
      have hlt : g < Gn := ltL (by omega) zh30
      have zq := ih hlt
      rw [rgV] at zq
      refine r_aload_n 2 rfl dX10_runWith_33 ?_
      refine r_getr dX10_runWith_34 fl_X10_10 rfl (hM _ _ _ rfl) ?_
      refine r_getr dX10_runWith_37 fl_X10_166 rfl (hM _ _ _ rfl) ?_
      refine r_iload 0 rfl dX10_runWith_40 ?_
      refine r_Sf [.ref _, .int _] dX10_runWith_42 lk_X10_140 mb_X10_pick sc_X10_pick rfl (c_X10_pick (N := 16) rfl (by decide)) rfl (Nat.le_of_ble_eq_true rfl) (rfl) ?_
      refine r_iload_n 3 rfl dX10_runWith_45 ?_
      refine r_icmpne (tgt := 79) dX10_runWith_46 (by decide) (fun zh46 => ?_) (fun zh46 => ?_)
      · refine r_iinc (v := (nI (g + 1))) (ls2 := [(6, .int (nI (g + 1))), (5, .int (rgV MI ML x kn g)), (0, .ref 0), (1, .int x), (2, .long kn), (4, .int 1)]) 0 dX10_runWith_79 rfl (x_inc g) (by decide) rfl ?_
        refine r_goto (tgt := 21) dX10_runWith_82 (by decide) ?_
        rw [p12 hlt] at zh46
        first
          | (rw [if_pos zh46] at zq
             rw [p13 hlt] at ze77
             subst ze77
             exact r_sub [0, 1, 2, 3, 4, 5] rfl zq)
          | (rw [if_neg zh46] at zq
             exact r_sub [0, 1, 2, 3, 4, 5] rfl zq)
      · refine r_iload 1 rfl dX10_runWith_49 ?_
        refine r_aload_n 2 rfl dX10_runWith_51 ?_
        refine r_getr dX10_runWith_52 fl_X10_42 rfl (hM _ _ _ rfl) ?_
        refine r_aload_n 2 rfl dX10_runWith_55 ?_
        refine r_getr dX10_runWith_56 fl_X10_10 rfl (hM _ _ _ rfl) ?_
        refine r_getr dX10_runWith_59 fl_X10_169 rfl (hM _ _ _ rfl) ?_
        refine r_iload 0 rfl dX10_runWith_62 ?_
        refine r_Sf [.ref _, .int _] dX10_runWith_64 lk_X10_140 mb_X10_pick sc_X10_pick rfl (c_X10_pick (N := 16) rfl (by decide)) rfl (Nat.le_of_ble_eq_true rfl) (rfl) ?_
        refine r_Vf [.int _] dX10_runWith_67 lk_X10_210 mb_X2_pointsOf in_X2_pointsOf se_X2_pointsOf rfl (c_X2_pointsOf hM) rfl rfl rfl (Nat.le_of_ble_eq_true rfl) (rfl) ?_
        refine r_lload_n 4 rfl dX10_runWith_70 ?_
        refine r_Sf [.long _, .long _] dX10_runWith_71 lk_X10_369 mb_X10_product sc_X10_product rfl (c_X10_product) rfl (Nat.le_of_ble_eq_true rfl) (rfl) ?_
        refine r_Sf [.int _, .int _] dX10_runWith_74 lk_X10_373 mb_X10_stronger sc_X10_stronger rfl (c_X10_stronger) rfl (Nat.le_of_ble_eq_true rfl) (rfl) ?_
        refine r_nmi (fun zv77 ze77 => ?_)
        refine r_istore (ls2 := [(5, .int zv77), (6, .int (nI g)), (0, .ref 0), (1, .int x), (2, .long kn), (4, .int 1)]) dX10_runWith_77 (by decide) rfl ?_
        refine r_iinc (v := (nI (g + 1))) (ls2 := [(6, .int (nI (g + 1))), (5, .int zv77), (0, .ref 0), (1, .int x), (2, .long kn), (4, .int 1)]) 1 dX10_runWith_79 rfl (x_inc g) (by decide) rfl ?_
        refine r_goto (tgt := 21) dX10_runWith_82 (by decide) ?_
        rw [p12 hlt] at zh46
        first
          | (rw [if_pos zh46] at zq
             rw [p13 hlt] at ze77
             subst ze77
             exact r_sub [0, 1, 2, 3, 4, 5] rfl zq)
          | (rw [if_neg zh46] at zq
             exact r_sub [0, 1, 2, 3, 4, 5] rfl zq)
  refine r_iload 3 rfl dX10_runWith_0 ?_
  refine r_ifne (tgt := 15) dX10_runWith_2 (by decide) (fun zh2 => ?_) (fun zh2 => ?_)
  rotate_left
  · exact absurd zh2 (by decide)
  refine r_iconst (v := 0) rfl dX10_runWith_15 ?_
  refine r_istore (ls2 := [(5, .int 0), (0, .ref 0), (1, .int x), (2, .long kn), (4, .int 1)]) dX10_runWith_16 (by decide) rfl ?_
  refine r_iconst (v := 0) rfl dX10_runWith_18 ?_
  refine r_istore (ls2 := [(6, .int 0), (5, .int 0), (0, .ref 0), (1, .int x), (2, .long kn), (4, .int 1)]) dX10_runWith_19 (by decide) rfl ?_
  exact r_sub [0, 1, 2, 3, 4, 5] rfl (loop 0 (Nat.zero_le _))
set_option maxRecDepth 100000 in
theorem c_X10_runWith_0 (hM : x_Lay MR) (hS2 : x_S2 X) {A f : Nat} (hA : A ≤ 8) (hAr : MI 1 6 = nI A) (hI : shI MI ML A) (hf : f < 5) (hr : MI (89 + 7 * f) 4 = 1) (hh : hasF (MI (89 + 7 * f) 13) = true) {kn : Int64} : Cf X yX10_runWith cX10_runWith 7 (some .int) 12 [.ref 0, .int (nI f), .long kn, .int 0] n SH MI ML MR (some (.int (rsV MI ML f kn))) MI ML MR := by
  have hk := sK_e hh
  refine Ct_of (by decide) (Nat.le_of_ble_eq_true rfl) (fun G hG => ?_)
  refine r_iload 3 rfl dX10_runWith_0 ?_
  refine r_ifne (tgt := 15) dX10_runWith_2 (by decide) (fun zh2 => ?_) (fun zh2 => ?_)
  · exact absurd zh2 (by decide)
  refine r_aload_n 0 rfl dX10_runWith_5 ?_
  refine r_iload_n 1 rfl dX10_runWith_6 ?_
  refine r_Vg [.int _] dX10_runWith_7 lk_X10_194 mb_X10_sheetOf in_X10_sheetOf se_X10_sheetOf rfl (c_X10_sheetOf hM hS2 hA hAr hI hf) rfl rfl rfl (Nat.le_of_ble_eq_true rfl) (rfl) (fun r zW zB zC hz => ?_)
  obtain ⟨rfl, rfl, -, -, -, hs⟩ := hz
  obtain ⟨e1, e2⟩ := hs hr
  rw [e1, e2]
  show RW X G _ _ _ _ _ _ _ _ _ _ _ _ _ [.ref (89 + 7 * f)]
  refine r_lload_n 2 rfl dX10_runWith_10 ?_
  refine r_Vf [.long _] dX10_runWith_11 lk_X10_367 mb_X7_runWith in_X7_runWith se_X7_runWith rfl (c_X7_runWith hM (shOf hM hf) hk.1 hk.2) (shOf hM hf).1 rfl rfl (Nat.le_of_ble_eq_true rfl) (rfl) ?_
  exact r_iret hG dX10_runWith_14 (⟨rfl, rfl, rfl, rfl⟩)
set_option maxRecDepth 100000 in
theorem c_X10_run_1 (hM : x_Lay MR) {Gn : Nat} (hG : Gn ≤ 16) (hGr : MI 1 8 = nI Gn) {x y : Int32} : Cf X yX10_run cX10_run 5 (some .int) 3 [.ref 0, .int x, .int y, .int 1] n SH MI ML MR (some (.int (r1Ans MI ML Gn x y).1)) (ansM MI (r1Ans MI ML Gn x y).2) ML MR := by
  have hG2 := hG
  by_cases h1 : funTr MI x = 0
  · by_cases h2 : inR y 729 = true
    · have ha : r1Ans MI ML Gn x y = (rgV MI ML x (ptsV ML y) Gn, 0) := by unfold r1Ans; rw [if_pos h1, if_pos h2]
      rw [ha]
      refine Ct_of (by decide) (Nat.le_of_ble_eq_true rfl) (fun G hG => ?_)
      refine r_iload_n 3 rfl dX10_run_0 ?_
      refine r_ifeq (tgt := 12) dX10_run_1 (by decide) (fun zh1 => ?_) (fun zh1 => ?_)
      · exact absurd zh1 (by decide)
      refine r_aload_n 0 rfl dX10_run_4 ?_
      refine r_iload_n 1 rfl dX10_run_5 ?_
      refine r_Vf [.int _] dX10_run_6 lk_X10_172 mb_X10_functionTrouble in_X10_functionTrouble se_X10_functionTrouble rfl (c_X10_functionTrouble hM) rfl rfl rfl (Nat.le_of_ble_eq_true rfl) (rfl) ?_
      refine r_goto (tgt := 17) dX10_run_9 (by decide) ?_
      refine r_istore (ls2 := [(4, .int (funTr MI x)), (0, .ref 0), (1, .int x), (2, .int y), (3, .int 1)]) dX10_run_17 (by decide) rfl ?_
      refine r_iload 0 rfl dX10_run_19 ?_
      refine r_ifne (tgt := 34) dX10_run_21 (by decide) (fun zh21 => ?_) (fun zh21 => ?_)
      · exact absurd zh21 (fun q => q h1)
      refine r_iload_n 3 rfl dX10_run_24 ?_
      refine r_Sf [.int _] dX10_run_25 lk_X10_207 mb_X10_isCube sc_X10_isCube rfl (c_X10_isCube) rfl (Nat.le_of_ble_eq_true rfl) (rfl) ?_
      refine r_ifne (tgt := 34) dX10_run_28 (by decide) (fun zh28 => ?_) (fun zh28 => ?_)
      rotate_left
      · exact absurd zh28 (by rw [if_pos h2]; decide)
      refine r_iload 0 rfl dX10_run_34 ?_
      refine r_ifne (tgt := 60) dX10_run_36 (by decide) (fun zh36 => ?_) (fun zh36 => ?_)
      · exact absurd zh36 (fun q => q h1)
      refine r_aload_n 1 rfl dX10_run_39 ?_
      refine r_aload_n 1 rfl dX10_run_40 ?_
      refine r_iload_n 2 rfl dX10_run_41 ?_
      refine r_aload_n 1 rfl dX10_run_42 ?_
      refine r_getr dX10_run_43 fl_X10_42 rfl (hM _ _ _ rfl) ?_
      refine r_iload_n 3 rfl dX10_run_46 ?_
      refine r_Vf [.int _] dX10_run_47 lk_X10_210 mb_X2_pointsOf in_X2_pointsOf se_X2_pointsOf rfl (c_X2_pointsOf hM) rfl rfl rfl (Nat.le_of_ble_eq_true rfl) (rfl) ?_
      refine r_iload_n 4 rfl dX10_run_50 ?_
      refine r_Vf [.int _, .long _, .int _] dX10_run_51 lk_X10_253 mb_X10_runWith in_X10_runWith se_X10_runWith rfl (c_X10_runWith_1 hM hG2 hGr) rfl rfl rfl (Nat.le_of_ble_eq_true rfl) (rfl) ?_
      refine r_Vf [.int _] dX10_run_54 lk_X10_115 mb_X10_told in_X10_told se_X10_told rfl (c_X10_told) rfl rfl rfl (Nat.le_of_ble_eq_true rfl) (rfl) ?_
      refine r_goto (tgt := 66) dX10_run_57 (by decide) ?_
      exact r_iret hG dX10_run_66 (⟨rfl, rfl, rfl, rfl⟩)
    · have ha : r1Ans MI ML Gn x y = (-1, 2) := by unfold r1Ans; rw [if_pos h1, if_neg h2]
      rw [ha]
      refine Ct_of (by decide) (Nat.le_of_ble_eq_true rfl) (fun G hG => ?_)
      refine r_iload_n 3 rfl dX10_run_0 ?_
      refine r_ifeq (tgt := 12) dX10_run_1 (by decide) (fun zh1 => ?_) (fun zh1 => ?_)
      · exact absurd zh1 (by decide)
      refine r_aload_n 0 rfl dX10_run_4 ?_
      refine r_iload_n 1 rfl dX10_run_5 ?_
      refine r_Vf [.int _] dX10_run_6 lk_X10_172 mb_X10_functionTrouble in_X10_functionTrouble se_X10_functionTrouble rfl (c_X10_functionTrouble hM) rfl rfl rfl (Nat.le_of_ble_eq_true rfl) (rfl) ?_
      refine r_goto (tgt := 17) dX10_run_9 (by decide) ?_
      refine r_istore (ls2 := [(4, .int (funTr MI x)), (0, .ref 0), (1, .int x), (2, .int y), (3, .int 1)]) dX10_run_17 (by decide) rfl ?_
      refine r_iload 0 rfl dX10_run_19 ?_
      refine r_ifne (tgt := 34) dX10_run_21 (by decide) (fun zh21 => ?_) (fun zh21 => ?_)
      · exact absurd zh21 (fun q => q h1)
      refine r_iload_n 3 rfl dX10_run_24 ?_
      refine r_Sf [.int _] dX10_run_25 lk_X10_207 mb_X10_isCube sc_X10_isCube rfl (c_X10_isCube) rfl (Nat.le_of_ble_eq_true rfl) (rfl) ?_
      refine r_ifne (tgt := 34) dX10_run_28 (by decide) (fun zh28 => ?_) (fun zh28 => ?_)
      · exact absurd zh28 (fun q => q (by rw [if_neg h2]))
      refine r_iconst (v := 2) rfl dX10_run_31 ?_
      refine r_istore (ls2 := [(4, .int 2), (0, .ref 0), (1, .int x), (2, .int y), (3, .int 1)]) dX10_run_32 (by decide) rfl ?_
      refine r_iload 0 rfl dX10_run_34 ?_
      refine r_ifne (tgt := 60) dX10_run_36 (by decide) (fun zh36 => ?_) (fun zh36 => ?_)
      rotate_left
      · exact absurd zh36 (by decide)
      refine r_aload_n 1 rfl dX10_run_60 ?_
      refine r_iload 0 rfl dX10_run_61 ?_
      refine r_Vf [.int _] dX10_run_63 lk_X10_86 mb_X10_refuse in_X10_refuse se_X10_refuse rfl (c_X10_refuse) rfl rfl rfl (Nat.le_of_ble_eq_true rfl) (rfl) ?_
      exact r_iret hG dX10_run_66 (⟨rfl, rfl, rfl, rfl⟩)
  · have ha : r1Ans MI ML Gn x y = (-1, funTr MI x) := by unfold r1Ans; rw [if_neg h1]
    rw [ha]
    refine Ct_of (by decide) (Nat.le_of_ble_eq_true rfl) (fun G hG => ?_)
    refine r_iload_n 3 rfl dX10_run_0 ?_
    refine r_ifeq (tgt := 12) dX10_run_1 (by decide) (fun zh1 => ?_) (fun zh1 => ?_)
    · exact absurd zh1 (by decide)
    refine r_aload_n 0 rfl dX10_run_4 ?_
    refine r_iload_n 1 rfl dX10_run_5 ?_
    refine r_Vf [.int _] dX10_run_6 lk_X10_172 mb_X10_functionTrouble in_X10_functionTrouble se_X10_functionTrouble rfl (c_X10_functionTrouble hM) rfl rfl rfl (Nat.le_of_ble_eq_true rfl) (rfl) ?_
    refine r_goto (tgt := 17) dX10_run_9 (by decide) ?_
    refine r_istore (ls2 := [(4, .int (funTr MI x)), (0, .ref 0), (1, .int x), (2, .int y), (3, .int 1)]) dX10_run_17 (by decide) rfl ?_
    refine r_iload 0 rfl dX10_run_19 ?_
    refine r_ifne (tgt := 34) dX10_run_21 (by decide) (fun zh21 => ?_) (fun zh21 => ?_)
    rotate_left
    · exact absurd zh21 (h1)
    refine r_iload 0 rfl dX10_run_34 ?_
    refine r_ifne (tgt := 60) dX10_run_36 (by decide) (fun zh36 => ?_) (fun zh36 => ?_)
    rotate_left
    · exact absurd zh36 (h1)
    refine r_aload_n 1 rfl dX10_run_60 ?_
    refine r_iload 0 rfl dX10_run_61 ?_
    refine r_Vf [.int _] dX10_run_63 lk_X10_86 mb_X10_refuse in_X10_refuse se_X10_refuse rfl (c_X10_refuse) rfl rfl rfl (Nat.le_of_ble_eq_true rfl) (rfl) ?_
    exact r_iret hG dX10_run_66 (⟨rfl, rfl, rfl, rfl⟩)
theorem fewTr_h {W : Mi} {f : Nat} (hf : f < 5) (h : fewTr W (nI f) = 0) : hasF (W (89 + 7 * f) 13) = true := by
  unfold fewTr at h
  rw [if_pos (fewTr_f h), nI_clamp (by omega)] at h
  cases z : hasF (W (89 + 7 * f) 13)
  · rw [z] at h; exact absurd h (by decide)
  · rfl
set_option maxRecDepth 100000 in
theorem c_X10_run_0 (hM : x_Lay MR) (hS2 : x_S2 X) {A : Nat} (hA : A ≤ 8) (hAr : MI 1 6 = nI A) (hI : shI MI ML A) {x y : Int32} : Ct X yX10_run cX10_run 5 (some .int) 13 0 0 [.ref 0, .int x, .int y, .int 0] n SH MI ML MR n SH (shQB MI ML MR A x (r0Ans x y)) := by
  refine Ct_of (by decide) (Nat.le_of_ble_eq_true rfl) (fun G hG => ?_)
  have j17 : ∀ zW zB, shE MI ML A zW zB → (funTr zW x = 0 → zW (89 + 7 * x.toNatClampNeg) 4 = 1) → RW X G RX10 cX10_run 5 (x_rm 13 0 0) n SH zW zB MR 0 0 17 [(0, .ref 0), (1, .int x), (2, .int y), (3, .int 0)] [.int (fewTr zW x)] := by
    intro zW zB hE h4
    by_cases h1 : fewTr zW x = 0
    · obtain ⟨⟨f, hf, rfl⟩, hmt⟩ := fewTr_ex h1
      have cf : (nI f).toNatClampNeg = f := nI_clamp (by omega)
      have h42 : zW (89 + 7 * f) 4 = 1 := by have := h4 (fewTr_f h1); rw [cf] at this; exact this
      by_cases h2 : inR y 729 = true
      ·
        refine r_istore (ls2 := [(4, .int (fewTr zW (nI f))), (0, .ref 0), (1, .int (nI f)), (2, .int y), (3, .int 0)]) dX10_run_17 (by decide) rfl ?_
        refine r_iload 0 rfl dX10_run_19 ?_
        refine r_ifne (tgt := 34) dX10_run_21 (by decide) (fun zh21 => ?_) (fun zh21 => ?_)
        · exact absurd zh21 (fun q => q h1)
        refine r_iload_n 3 rfl dX10_run_24 ?_
        refine r_Sf [.int _] dX10_run_25 lk_X10_207 mb_X10_isCube sc_X10_isCube rfl (c_X10_isCube) rfl (Nat.le_of_ble_eq_true rfl) (rfl) ?_
        refine r_ifne (tgt := 34) dX10_run_28 (by decide) (fun zh28 => ?_) (fun zh28 => ?_)
        rotate_left
        · exact absurd zh28 (by rw [if_pos h2]; decide)
        refine r_iload 0 rfl dX10_run_34 ?_
        refine r_ifne (tgt := 60) dX10_run_36 (by decide) (fun zh36 => ?_) (fun zh36 => ?_)
        · exact absurd zh36 (fun q => q h1)
        refine r_aload_n 1 rfl dX10_run_39 ?_
        refine r_aload_n 1 rfl dX10_run_40 ?_
        refine r_iload_n 2 rfl dX10_run_41 ?_
        refine r_aload_n 1 rfl dX10_run_42 ?_
        refine r_getr dX10_run_43 fl_X10_42 rfl (hM _ _ _ rfl) ?_
        refine r_iload_n 3 rfl dX10_run_46 ?_
        refine r_Vf [.int _] dX10_run_47 lk_X10_210 mb_X2_pointsOf in_X2_pointsOf se_X2_pointsOf rfl (c_X2_pointsOf hM) rfl rfl rfl (Nat.le_of_ble_eq_true rfl) (rfl) ?_
        refine r_iload_n 4 rfl dX10_run_50 ?_
        refine r_Vf [.int _, .long _, .int _] dX10_run_51 lk_X10_253 mb_X10_runWith in_X10_runWith se_X10_runWith rfl (c_X10_runWith_0 hM hS2 hA (shE_A hE hAr) hE.2.2.2.2.2.1 hf h42 (fewTr_h hf h1)) rfl rfl rfl (Nat.le_of_ble_eq_true rfl) (rfl) ?_
        refine r_Vf [.int _] dX10_run_54 lk_X10_115 mb_X10_told in_X10_told se_X10_told rfl (c_X10_told) rfl rfl rfl (Nat.le_of_ble_eq_true rfl) (rfl) ?_
        refine r_goto (tgt := 66) dX10_run_57 (by decide) ?_
        exact r_iret hG dX10_run_66 (sqB_yes hE (by unfold r0Ans; rw [fewTr_u, if_pos h1, if_pos h2, cf, rsV_u]) h4)
      ·
        refine r_istore (ls2 := [(4, .int (fewTr zW (nI f))), (0, .ref 0), (1, .int (nI f)), (2, .int y), (3, .int 0)]) dX10_run_17 (by decide) rfl ?_
        refine r_iload 0 rfl dX10_run_19 ?_
        refine r_ifne (tgt := 34) dX10_run_21 (by decide) (fun zh21 => ?_) (fun zh21 => ?_)
        · exact absurd zh21 (fun q => q h1)
        refine r_iload_n 3 rfl dX10_run_24 ?_
        refine r_Sf [.int _] dX10_run_25 lk_X10_207 mb_X10_isCube sc_X10_isCube rfl (c_X10_isCube) rfl (Nat.le_of_ble_eq_true rfl) (rfl) ?_
        refine r_ifne (tgt := 34) dX10_run_28 (by decide) (fun zh28 => ?_) (fun zh28 => ?_)
        · exact absurd zh28 (fun q => q (by rw [if_neg h2]))
        refine r_iconst (v := 2) rfl dX10_run_31 ?_
        refine r_istore (ls2 := [(4, .int 2), (0, .ref 0), (1, .int (nI f)), (2, .int y), (3, .int 0)]) dX10_run_32 (by decide) rfl ?_
        refine r_iload 0 rfl dX10_run_34 ?_
        refine r_ifne (tgt := 60) dX10_run_36 (by decide) (fun zh36 => ?_) (fun zh36 => ?_)
        rotate_left
        · exact absurd zh36 (by decide)
        refine r_aload_n 1 rfl dX10_run_60 ?_
        refine r_iload 0 rfl dX10_run_61 ?_
        refine r_Vf [.int _] dX10_run_63 lk_X10_86 mb_X10_refuse in_X10_refuse se_X10_refuse rfl (c_X10_refuse) rfl rfl rfl (Nat.le_of_ble_eq_true rfl) (rfl) ?_
        exact r_iret hG dX10_run_66 (sqB_yes hE (by unfold r0Ans; rw [fewTr_u, if_pos h1, if_neg h2]) h4)
    ·
      refine r_istore (ls2 := [(4, .int (fewTr zW x)), (0, .ref 0), (1, .int x), (2, .int y), (3, .int 0)]) dX10_run_17 (by decide) rfl ?_
      refine r_iload 0 rfl dX10_run_19 ?_
      refine r_ifne (tgt := 34) dX10_run_21 (by decide) (fun zh21 => ?_) (fun zh21 => ?_)
      rotate_left
      · exact absurd zh21 (h1)
      refine r_iload 0 rfl dX10_run_34 ?_
      refine r_ifne (tgt := 60) dX10_run_36 (by decide) (fun zh36 => ?_) (fun zh36 => ?_)
      rotate_left
      · exact absurd zh36 (h1)
      refine r_aload_n 1 rfl dX10_run_60 ?_
      refine r_iload 0 rfl dX10_run_61 ?_
      refine r_Vf [.int _] dX10_run_63 lk_X10_86 mb_X10_refuse in_X10_refuse se_X10_refuse rfl (c_X10_refuse) rfl rfl rfl (Nat.le_of_ble_eq_true rfl) (rfl) ?_
      exact r_iret hG dX10_run_66 (sqB_yes hE (by unfold r0Ans; rw [fewTr_u, if_neg h1]) h4)
  refine r_iload_n 3 rfl dX10_run_0 ?_
  refine r_ifeq (tgt := 12) dX10_run_1 (by decide) (fun zh1 => ?_) (fun zh1 => ?_)
  rotate_left
  · exact absurd zh1 (by decide)
  refine r_aload_n 0 rfl dX10_run_12 ?_
  refine r_iload_n 1 rfl dX10_run_13 ?_
  refine r_Vg [.int _] dX10_run_14 lk_X10_232 mb_X10_fewestTrouble in_X10_fewestTrouble se_X10_fewestTrouble rfl (c_X10_fewestTrouble hM hS2 hA hAr hI) rfl rfl rfl (Nat.le_of_ble_eq_true rfl) (rfl) (fun r zW zB zC hz => ?_)
  obtain ⟨rfl, zE, -, rfl, z4⟩ := hz
  exact j17 zW zB zE z4
  skip
set_option maxRecDepth 100000 in
theorem c_X10_runBurst_1 (hM : x_Lay MR) {A Gn : Nat} (hA : A ≤ 8) (hAr : MI 1 6 = nI A) (hG : Gn ≤ 16) (hGr : MI 1 8 = nI Gn) {x y : Int32} : Cf X yX10_runBurst cX10_runBurst 5 (some .int) 3 [.ref 0, .int x, .int y, .int 1] n SH MI ML MR (some (.int (b1Ans MI ML Gn x y).1)) (ansM MI (b1Ans MI ML Gn x y).2) ML MR := by
  have hG2 := hG
  by_cases hc : inR x 5 = true ∧ inR y (MI 1 6) = true
  · obtain ⟨i, hi, rfl⟩ : ∃ i, i < A ∧ y = nI i := by
      have h2 := hc.2
      rw [hAr] at h2
      exact inR_ex (by omega) (inR_t.mp h2).1 (inR_t.mp h2).2
    by_cases h1 : funTr MI x = 0
    · have ha : b1Ans MI ML Gn x (nI i) = (rgV MI ML x (ptsV ML (MI 51 i)) Gn, 0) := by unfold b1Ans; rw [if_pos hc, if_pos h1, nI_clamp (by omega)]
      rw [ha]
      refine Ct_of (by decide) (Nat.le_of_ble_eq_true rfl) (fun G hG => ?_)
      refine r_iload_n 1 rfl dX10_runBurst_0 ?_
      refine r_Sf [.int _] dX10_runBurst_1 lk_X10_247 mb_X10_isFunction sc_X10_isFunction rfl (c_X10_isFunction) rfl (Nat.le_of_ble_eq_true rfl) (rfl) ?_
      refine r_ifeq (tgt := 15) dX10_runBurst_4 (by decide) (fun zh4 => ?_) (fun zh4 => ?_)
      · exact absurd zh4 (by rw [if_pos hc.1]; decide)
      refine r_aload_n 0 rfl dX10_runBurst_7 ?_
      refine r_iload_n 2 rfl dX10_runBurst_8 ?_
      refine r_Vf [.int _] dX10_runBurst_9 lk_X10_153 mb_X10_hasArc in_X10_hasArc se_X10_hasArc rfl (c_X10_hasArc hM) rfl rfl rfl (Nat.le_of_ble_eq_true rfl) (rfl) ?_
      refine r_ifne (tgt := 21) dX10_runBurst_12 (by decide) (fun zh12 => ?_) (fun zh12 => ?_)
      rotate_left
      · exact absurd zh12 (by rw [if_pos hc.2]; decide)
      refine r_iload_n 3 rfl dX10_runBurst_21 ?_
      refine r_ifeq (tgt := 33) dX10_runBurst_22 (by decide) (fun zh22 => ?_) (fun zh22 => ?_)
      · exact absurd zh22 (by decide)
      refine r_aload_n 0 rfl dX10_runBurst_25 ?_
      refine r_iload_n 1 rfl dX10_runBurst_26 ?_
      refine r_Vf [.int _] dX10_runBurst_27 lk_X10_172 mb_X10_functionTrouble in_X10_functionTrouble se_X10_functionTrouble rfl (c_X10_functionTrouble hM) rfl rfl rfl (Nat.le_of_ble_eq_true rfl) (rfl) ?_
      refine r_goto (tgt := 38) dX10_runBurst_30 (by decide) ?_
      refine r_istore (ls2 := [(4, .int (funTr MI x)), (0, .ref 0), (1, .int x), (2, .int (nI i)), (3, .int 1)]) dX10_runBurst_38 (by decide) rfl ?_
      refine r_iload 0 rfl dX10_runBurst_40 ?_
      refine r_ifne (tgt := 63) dX10_runBurst_42 (by decide) (fun zh42 => ?_) (fun zh42 => ?_)
      · exact absurd zh42 (fun q => q h1)
      refine r_aload_n 1 rfl dX10_runBurst_45 ?_
      refine r_aload_n 1 rfl dX10_runBurst_46 ?_
      refine r_iload_n 2 rfl dX10_runBurst_47 ?_
      refine r_aload_n 1 rfl dX10_runBurst_48 ?_
      refine r_iload_n 3 rfl dX10_runBurst_49 ?_
      refine r_Vf [.int _] dX10_runBurst_50 lk_X10_257 mb_X10_burstOf in_X10_burstOf se_X10_burstOf rfl (c_X10_burstOf hM (show i < 8 by omega)) rfl rfl rfl (Nat.le_of_ble_eq_true rfl) (rfl) ?_
      refine r_iload_n 4 rfl dX10_runBurst_53 ?_
      refine r_Vf [.int _, .long _, .int _] dX10_runBurst_54 lk_X10_253 mb_X10_runWith in_X10_runWith se_X10_runWith rfl (c_X10_runWith_1 hM hG2 hGr) rfl rfl rfl (Nat.le_of_ble_eq_true rfl) (rfl) ?_
      refine r_Vf [.int _] dX10_runBurst_57 lk_X10_115 mb_X10_told in_X10_told se_X10_told rfl (c_X10_told) rfl rfl rfl (Nat.le_of_ble_eq_true rfl) (rfl) ?_
      refine r_goto (tgt := 69) dX10_runBurst_60 (by decide) ?_
      exact r_iret hG dX10_runBurst_69 (⟨rfl, rfl, rfl, rfl⟩)
    · have ha : b1Ans MI ML Gn x (nI i) = (-1, funTr MI x) := by unfold b1Ans; rw [if_pos hc, if_neg h1]
      rw [ha]
      refine Ct_of (by decide) (Nat.le_of_ble_eq_true rfl) (fun G hG => ?_)
      refine r_iload_n 1 rfl dX10_runBurst_0 ?_
      refine r_Sf [.int _] dX10_runBurst_1 lk_X10_247 mb_X10_isFunction sc_X10_isFunction rfl (c_X10_isFunction) rfl (Nat.le_of_ble_eq_true rfl) (rfl) ?_
      refine r_ifeq (tgt := 15) dX10_runBurst_4 (by decide) (fun zh4 => ?_) (fun zh4 => ?_)
      · exact absurd zh4 (by rw [if_pos hc.1]; decide)
      refine r_aload_n 0 rfl dX10_runBurst_7 ?_
      refine r_iload_n 2 rfl dX10_runBurst_8 ?_
      refine r_Vf [.int _] dX10_runBurst_9 lk_X10_153 mb_X10_hasArc in_X10_hasArc se_X10_hasArc rfl (c_X10_hasArc hM) rfl rfl rfl (Nat.le_of_ble_eq_true rfl) (rfl) ?_
      refine r_ifne (tgt := 21) dX10_runBurst_12 (by decide) (fun zh12 => ?_) (fun zh12 => ?_)
      rotate_left
      · exact absurd zh12 (by rw [if_pos hc.2]; decide)
      refine r_iload_n 3 rfl dX10_runBurst_21 ?_
      refine r_ifeq (tgt := 33) dX10_runBurst_22 (by decide) (fun zh22 => ?_) (fun zh22 => ?_)
      · exact absurd zh22 (by decide)
      refine r_aload_n 0 rfl dX10_runBurst_25 ?_
      refine r_iload_n 1 rfl dX10_runBurst_26 ?_
      refine r_Vf [.int _] dX10_runBurst_27 lk_X10_172 mb_X10_functionTrouble in_X10_functionTrouble se_X10_functionTrouble rfl (c_X10_functionTrouble hM) rfl rfl rfl (Nat.le_of_ble_eq_true rfl) (rfl) ?_
      refine r_goto (tgt := 38) dX10_runBurst_30 (by decide) ?_
      refine r_istore (ls2 := [(4, .int (funTr MI x)), (0, .ref 0), (1, .int x), (2, .int (nI i)), (3, .int 1)]) dX10_runBurst_38 (by decide) rfl ?_
      refine r_iload 0 rfl dX10_runBurst_40 ?_
      refine r_ifne (tgt := 63) dX10_runBurst_42 (by decide) (fun zh42 => ?_) (fun zh42 => ?_)
      rotate_left
      · exact absurd zh42 (h1)
      refine r_aload_n 1 rfl dX10_runBurst_63 ?_
      refine r_iload 0 rfl dX10_runBurst_64 ?_
      refine r_Vf [.int _] dX10_runBurst_66 lk_X10_86 mb_X10_refuse in_X10_refuse se_X10_refuse rfl (c_X10_refuse) rfl rfl rfl (Nat.le_of_ble_eq_true rfl) (rfl) ?_
      exact r_iret hG dX10_runBurst_69 (⟨rfl, rfl, rfl, rfl⟩)
  · have ha : b1Ans MI ML Gn x y = (-1, 1) := by unfold b1Ans; rw [if_neg hc]
    rw [ha]
    refine Ct_of (by decide) (Nat.le_of_ble_eq_true rfl) (fun G hG => ?_)
    refine r_iload_n 1 rfl dX10_runBurst_0 ?_
    refine r_Sf [.int _] dX10_runBurst_1 lk_X10_247 mb_X10_isFunction sc_X10_isFunction rfl (c_X10_isFunction) rfl (Nat.le_of_ble_eq_true rfl) (rfl) ?_
    refine r_ifeq (tgt := 15) dX10_runBurst_4 (by decide) (fun zh4 => ?_) (fun zh4 => ?_)
    · refine r_aload_n 0 rfl dX10_runBurst_15 ?_
      refine r_iconst (v := 1) rfl dX10_runBurst_16 ?_
      refine r_Vf [.int _] dX10_runBurst_17 lk_X10_86 mb_X10_refuse in_X10_refuse se_X10_refuse rfl (c_X10_refuse) rfl rfl rfl (Nat.le_of_ble_eq_true rfl) (rfl) ?_
      exact r_iret hG dX10_runBurst_20 (⟨rfl, rfl, rfl, rfl⟩)
    · refine r_aload_n 0 rfl dX10_runBurst_7 ?_
      refine r_iload_n 2 rfl dX10_runBurst_8 ?_
      refine r_Vf [.int _] dX10_runBurst_9 lk_X10_153 mb_X10_hasArc in_X10_hasArc se_X10_hasArc rfl (c_X10_hasArc hM) rfl rfl rfl (Nat.le_of_ble_eq_true rfl) (rfl) ?_
      refine r_ifne (tgt := 21) dX10_runBurst_12 (by decide) (fun zh12 => ?_) (fun zh12 => ?_)
      · exfalso
        have y1 : inR x 5 = true := by
          cases z : inR x 5
          · rw [z] at zh4; exact absurd rfl zh4
          · rfl
        have y2 : inR y (MI 1 6) = true := by
          cases z : inR y (MI 1 6)
          · rw [z] at zh12; exact absurd rfl zh12
          · rfl
        exact hc ⟨y1, y2⟩
      · refine r_aload_n 0 rfl dX10_runBurst_15 ?_
        refine r_iconst (v := 1) rfl dX10_runBurst_16 ?_
        refine r_Vf [.int _] dX10_runBurst_17 lk_X10_86 mb_X10_refuse in_X10_refuse se_X10_refuse rfl (c_X10_refuse) rfl rfl rfl (Nat.le_of_ble_eq_true rfl) (rfl) ?_
        exact r_iret hG dX10_runBurst_20 (⟨rfl, rfl, rfl, rfl⟩)
set_option maxRecDepth 100000 in
theorem c_X10_runBurst_0 (hM : x_Lay MR) (hS2 : x_S2 X) {A : Nat} (hA : A ≤ 8) (hAr : MI 1 6 = nI A) (hI : shI MI ML A) {x y : Int32} : Ct X yX10_runBurst cX10_runBurst 5 (some .int) 13 0 0 [.ref 0, .int x, .int y, .int 0] n SH MI ML MR n SH (fun r W B C => C = MR ∧ shE MI ML A W B ∧ r = some (.int (b0Ans x y W B).1) ∧ W 0 8 = (b0Ans x y W B).2 ∧ (inR y (W 1 6) = true → funTr W x = 0 → W (89 + 7 * x.toNatClampNeg) 4 = 1)) := by
  by_cases hc : inR x 5 = true ∧ inR y (MI 1 6) = true
  · obtain ⟨i, hi, rfl⟩ : ∃ i, i < A ∧ y = nI i := by
      have h2 := hc.2
      rw [hAr] at h2
      exact inR_ex (by omega) (inR_t.mp h2).1 (inR_t.mp h2).2
    refine Ct_of (by decide) (Nat.le_of_ble_eq_true rfl) (fun G hG => ?_)
    have j38 : ∀ zW zB, shE MI ML A zW zB → (funTr zW x = 0 → zW (89 + 7 * x.toNatClampNeg) 4 = 1) → RW X G RX10 cX10_runBurst 5 (x_rm 13 0 0) n SH zW zB MR 0 0 38 [(0, .ref 0), (1, .int x), (2, .int (nI i)), (3, .int 0)] [.int (fewTr zW x)] := by
      intro zW zB hE h4
      have hcW : ∀ w, inR x 5 = true ∧ inR (nI i) (u2 zW 0 8 w 1 6) = true := fun w => ⟨hc.1, by rw [u2_row _ _ (by decide), hE.1 1 (by decide) (by decide)]; exact hc.2⟩
      have ci : (nI i).toNatClampNeg = i := nI_clamp (by omega)
      have hend : ∀ a w, b0Ans x (nI i) (u2 zW 0 8 w) zB = (a, w) → (fun r W B C => C = MR ∧ shE MI ML A W B ∧ r = some (.int (b0Ans x (nI i) W B).1) ∧ W 0 8 = (b0Ans x (nI i) W B).2 ∧ (inR (nI i) (W 1 6) = true → funTr W x = 0 → W (89 + 7 * x.toNatClampNeg) 4 = 1) : xQ) (some (.int a)) (u2 zW 0 8 w) zB MR := fun a w ha => ⟨rfl, shE_w hE, by rw [ha], by rw [ha]; exact u2_eq _ _ _ _, fun _ q => by rw [u2_row _ _ (by omega)]; exact h4 q⟩
      by_cases h1 : fewTr zW x = 0
      · obtain ⟨⟨f, hf, rfl⟩, hmt⟩ := fewTr_ex h1
        have cf : (nI f).toNatClampNeg = f := nI_clamp (by omega)
        have h42 : zW (89 + 7 * f) 4 = 1 := by have := h4 (fewTr_f h1); rw [cf] at this; exact this
        refine r_istore (ls2 := [(4, .int (fewTr zW (nI f))), (0, .ref 0), (1, .int (nI f)), (2, .int (nI i)), (3, .int 0)]) dX10_runBurst_38 (by decide) rfl ?_
        refine r_iload 0 rfl dX10_runBurst_40 ?_
        refine r_ifne (tgt := 63) dX10_runBurst_42 (by decide) (fun zh42 => ?_) (fun zh42 => ?_)
        · exact absurd zh42 (fun q => q h1)
        refine r_aload_n 1 rfl dX10_runBurst_45 ?_
        refine r_aload_n 1 rfl dX10_runBurst_46 ?_
        refine r_iload_n 2 rfl dX10_runBurst_47 ?_
        refine r_aload_n 1 rfl dX10_runBurst_48 ?_
        refine r_iload_n 3 rfl dX10_runBurst_49 ?_
        refine r_Vf [.int _] dX10_runBurst_50 lk_X10_257 mb_X10_burstOf in_X10_burstOf se_X10_burstOf rfl (c_X10_burstOf hM (show i < 8 by omega)) rfl rfl rfl (Nat.le_of_ble_eq_true rfl) (rfl) ?_
        refine r_iload_n 4 rfl dX10_runBurst_53 ?_
        refine r_Vf [.int _, .long _, .int _] dX10_runBurst_54 lk_X10_253 mb_X10_runWith in_X10_runWith se_X10_runWith rfl (c_X10_runWith_0 hM hS2 hA (shE_A hE hAr) hE.2.2.2.2.2.1 hf h42 (fewTr_h hf h1)) rfl rfl rfl (Nat.le_of_ble_eq_true rfl) (rfl) ?_
        refine r_Vf [.int _] dX10_runBurst_57 lk_X10_115 mb_X10_told in_X10_told se_X10_told rfl (c_X10_told) rfl rfl rfl (Nat.le_of_ble_eq_true rfl) (rfl) ?_
        refine r_goto (tgt := 69) dX10_runBurst_60 (by decide) ?_
        exact r_iret hG dX10_runBurst_69 (hend _ _ (by unfold b0Ans; rw [if_pos (hcW _), fewTr_u, if_pos h1, cf, rsV_u, ci, u2_row _ _ (by decide)]))
      ·
        refine r_istore (ls2 := [(4, .int (fewTr zW x)), (0, .ref 0), (1, .int x), (2, .int (nI i)), (3, .int 0)]) dX10_runBurst_38 (by decide) rfl ?_
        refine r_iload 0 rfl dX10_runBurst_40 ?_
        refine r_ifne (tgt := 63) dX10_runBurst_42 (by decide) (fun zh42 => ?_) (fun zh42 => ?_)
        rotate_left
        · exact absurd zh42 (h1)
        refine r_aload_n 1 rfl dX10_runBurst_63 ?_
        refine r_iload 0 rfl dX10_runBurst_64 ?_
        refine r_Vf [.int _] dX10_runBurst_66 lk_X10_86 mb_X10_refuse in_X10_refuse se_X10_refuse rfl (c_X10_refuse) rfl rfl rfl (Nat.le_of_ble_eq_true rfl) (rfl) ?_
        exact r_iret hG dX10_runBurst_69 (hend _ _ (by unfold b0Ans; rw [if_pos (hcW _), fewTr_u, if_neg h1]))
    refine r_iload_n 1 rfl dX10_runBurst_0 ?_
    refine r_Sf [.int _] dX10_runBurst_1 lk_X10_247 mb_X10_isFunction sc_X10_isFunction rfl (c_X10_isFunction) rfl (Nat.le_of_ble_eq_true rfl) (rfl) ?_
    refine r_ifeq (tgt := 15) dX10_runBurst_4 (by decide) (fun zh4 => ?_) (fun zh4 => ?_)
    · exact absurd zh4 (by rw [if_pos hc.1]; decide)
    refine r_aload_n 0 rfl dX10_runBurst_7 ?_
    refine r_iload_n 2 rfl dX10_runBurst_8 ?_
    refine r_Vf [.int _] dX10_runBurst_9 lk_X10_153 mb_X10_hasArc in_X10_hasArc se_X10_hasArc rfl (c_X10_hasArc hM) rfl rfl rfl (Nat.le_of_ble_eq_true rfl) (rfl) ?_
    refine r_ifne (tgt := 21) dX10_runBurst_12 (by decide) (fun zh12 => ?_) (fun zh12 => ?_)
    rotate_left
    · exact absurd zh12 (by rw [if_pos hc.2]; decide)
    refine r_iload_n 3 rfl dX10_runBurst_21 ?_
    refine r_ifeq (tgt := 33) dX10_runBurst_22 (by decide) (fun zh22 => ?_) (fun zh22 => ?_)
    rotate_left
    · exact absurd zh22 (by decide)
    refine r_aload_n 0 rfl dX10_runBurst_33 ?_
    refine r_iload_n 1 rfl dX10_runBurst_34 ?_
    refine r_Vg [.int _] dX10_runBurst_35 lk_X10_232 mb_X10_fewestTrouble in_X10_fewestTrouble se_X10_fewestTrouble rfl (c_X10_fewestTrouble hM hS2 hA hAr hI) rfl rfl rfl (Nat.le_of_ble_eq_true rfl) (rfl) (fun r zW zB zC hz => ?_)
    obtain ⟨rfl, zE, -, rfl, z4⟩ := hz
    exact j38 zW zB zE z4
    skip
  · have ha : ∀ w, b0Ans x y (u2 MI 0 8 w) ML = (-1, 1) := fun w => by
      unfold b0Ans
      rw [u2_row _ _ (by decide), if_neg hc]
    refine Ct_of (by decide) (Nat.le_of_ble_eq_true rfl) (fun G hG => ?_)
    refine r_iload_n 1 rfl dX10_runBurst_0 ?_
    refine r_Sf [.int _] dX10_runBurst_1 lk_X10_247 mb_X10_isFunction sc_X10_isFunction rfl (c_X10_isFunction) rfl (Nat.le_of_ble_eq_true rfl) (rfl) ?_
    refine r_ifeq (tgt := 15) dX10_runBurst_4 (by decide) (fun zh4 => ?_) (fun zh4 => ?_)
    · refine r_aload_n 0 rfl dX10_runBurst_15 ?_
      refine r_iconst (v := 1) rfl dX10_runBurst_16 ?_
      refine r_Vf [.int _] dX10_runBurst_17 lk_X10_86 mb_X10_refuse in_X10_refuse se_X10_refuse rfl (c_X10_refuse) rfl rfl rfl (Nat.le_of_ble_eq_true rfl) (rfl) ?_
      exact r_iret hG dX10_runBurst_20 (⟨rfl, shE_w (shE_rf hI), by rw [ha], by rw [ha]; exact u2_eq _ _ _ _, fun q1 q2 => absurd ⟨funTr_in q2, q1⟩ hc⟩)
    · refine r_aload_n 0 rfl dX10_runBurst_7 ?_
      refine r_iload_n 2 rfl dX10_runBurst_8 ?_
      refine r_Vf [.int _] dX10_runBurst_9 lk_X10_153 mb_X10_hasArc in_X10_hasArc se_X10_hasArc rfl (c_X10_hasArc hM) rfl rfl rfl (Nat.le_of_ble_eq_true rfl) (rfl) ?_
      refine r_ifne (tgt := 21) dX10_runBurst_12 (by decide) (fun zh12 => ?_) (fun zh12 => ?_)
      · exfalso
        have y1 : inR x 5 = true := by
          cases z : inR x 5
          · rw [z] at zh4; exact absurd rfl zh4
          · rfl
        have y2 : inR y (MI 1 6) = true := by
          cases z : inR y (MI 1 6)
          · rw [z] at zh12; exact absurd rfl zh12
          · rfl
        exact hc ⟨y1, y2⟩
      · refine r_aload_n 0 rfl dX10_runBurst_15 ?_
        refine r_iconst (v := 1) rfl dX10_runBurst_16 ?_
        refine r_Vf [.int _] dX10_runBurst_17 lk_X10_86 mb_X10_refuse in_X10_refuse se_X10_refuse rfl (c_X10_refuse) rfl rfl rfl (Nat.le_of_ble_eq_true rfl) (rfl) ?_
        exact r_iret hG dX10_runBurst_20 (⟨rfl, shE_w (shE_rf hI), by rw [ha], by rw [ha]; exact u2_eq _ _ _ _, fun q1 q2 => absurd ⟨funTr_in q2, q1⟩ hc⟩)
end class3

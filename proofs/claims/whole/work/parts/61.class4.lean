/-! the desk: feedback, what is shown, codes, safe -/
/-- what a FUNCTION is at a POINT, by FEWEST -/
def vlV (W : Mi) (B : Nat → Nat → Int64) (f : Nat) (p : Int32) : Int32 := if rsV W B f (ptL p) = 1 then 1 else 0
def seR (v3 v4 : Int32 → Int32) (inp : Int32) : Nat → Nat → Int32 → Option Nat × Int32
  | 0, _, c => (none, c)
  | k + 1, r, c => if v3 (inp ||| (c <<< ((4 : Int32) &&& 31))) ||| (v4 (inp ||| (c <<< ((4 : Int32) &&& 31))) <<< ((1 : Int32) &&& 31)) = c then (some r, c) else seR v3 v4 inp k (r + 1) (v3 (inp ||| (c <<< ((4 : Int32) &&& 31))) ||| (v4 (inp ||| (c <<< ((4 : Int32) &&& 31))) <<< ((1 : Int32) &&& 31)))
def seV (W : Mi) (B : Nat → Nat → Int64) (i : Nat) : Option Nat × Int32 := seR (vlV W B 3) (vlV W B 4) (pickV (W 44) 6 (arP W i 1)) 8 0 (pickV (W 2) 6 (arP W i 0))
/-- trouble of feedback: 3 was looked at, and 4 if 3 has FEWEST -/
def fbTr (W : Mi) (y : Int32) : Int32 := if inR y (W 1 6) = true then (if W 43 6 = 0 then (if hasF (W 110 13) = true then (if hasF (W 117 13) = true then 0 else 5) else 5) else 5) else 1
def fbR (W : Mi) (y : Int32) : Prop := inR y (W 1 6) = true → W 43 6 = 0 → W 110 4 = 1 ∧ (hasF (W 110 13) = true → W 117 4 = 1)
theorem fbTr_u {W : Mi} {y w : Int32} : fbTr (u2 W 0 8 w) y = fbTr W y := rfl
theorem fbTr_0 {W : Mi} {y : Int32} (h : fbTr W y = 0) : inR y (W 1 6) = true ∧ W 43 6 = 0 ∧ hasF (W 110 13) = true ∧ hasF (W 117 13) = true := by
  unfold fbTr at h
  split at h
  · split at h
    · split at h
      · split at h
        · exact ⟨by assumption, by assumption, by assumption, by assumption⟩
        · exact absurd h (by decide)
      · exact absurd h (by decide)
    · exact absurd h (by decide)
  · exact absurd h (by decide)
section class4
variable {X : xG} {n : Nat} {MI : Nat → Nat → Int32} {ML : Nat → Nat → Int64} {MR : Nat → Nat → Option Nat}
set_option maxRecDepth 100000 in
theorem c_X10_feedbackTrouble (hM : x_Lay MR) (hS2 : x_S2 X) {A : Nat} (hA : A ≤ 8) (hAr : MI 1 6 = nI A) (hI : shI MI ML A) {y : Int32} : Ct X yX10_feedbackTrouble cX10_feedbackTrouble 2 (some .int) 12 0 0 [.ref 0, .int y] n SH MI ML MR n SH (fun r W B C => C = MR ∧ shE MI ML A W B ∧ W 0 = MI 0 ∧ r = some (.int (fbTr W y)) ∧ fbR W y) := by
  refine Ct_of (by decide) (Nat.le_of_ble_eq_true rfl) (fun G hG => ?_)
  have h3 : (3 : Nat) < 5 := by decide
  have h4 : (4 : Nat) < 5 := by decide
  by_cases hc : inR y (MI 1 6) = true
  · by_cases he : MI 43 6 = 0
    · have cW : ∀ (zW : Mi) (zB : Nat → Nat → Int64), shE MI ML A zW zB → fbTr zW y = (if hasF (zW 110 13) = true then (if hasF (zW 117 13) = true then 0 else 5) else 5) := fun zW zB hE => by
        unfold fbTr
        rw [hE.1 1 (by decide) (by decide), hE.1 43 (by decide) (by decide), if_pos hc, if_pos he]
      refine r_aload_n 0 rfl dX10_feedbackTrouble_0 ?_
      refine r_iload_n 1 rfl dX10_feedbackTrouble_1 ?_
      refine r_Vf [.int _] dX10_feedbackTrouble_2 lk_X10_153 mb_X10_hasArc in_X10_hasArc se_X10_hasArc rfl (c_X10_hasArc hM) rfl rfl rfl (Nat.le_of_ble_eq_true rfl) (rfl) ?_
      refine r_ifne (tgt := 10) dX10_feedbackTrouble_5 (by decide) (fun zh5 => ?_) (fun zh5 => ?_)
      rotate_left
      · exact absurd zh5 (by rw [if_pos hc]; decide)
      refine r_aload_n 0 rfl dX10_feedbackTrouble_10 ?_
      refine r_getr dX10_feedbackTrouble_11 fl_X10_35 rfl (hM _ _ _ rfl) ?_
      refine r_geti dX10_feedbackTrouble_14 fl_X10_127 rfl ?_
      refine r_ifeq (tgt := 22) dX10_feedbackTrouble_17 (by decide) (fun zh17 => ?_) (fun zh17 => ?_)
      rotate_left
      · exact absurd zh17 (fun q => q he)
      refine r_aload_n 0 rfl dX10_feedbackTrouble_22 ?_
      refine r_iconst (v := 3) rfl dX10_feedbackTrouble_23 ?_
      refine r_Vg [.int _] dX10_feedbackTrouble_24 lk_X10_194 mb_X10_sheetOf in_X10_sheetOf se_X10_sheetOf rfl (c_X10_sheetOf (f := 3) hM hS2 hA hAr hI h3) rfl rfl rfl (Nat.le_of_ble_eq_true rfl) (rfl) (fun r zW zB zC hz => ?_)
      obtain ⟨rfl, rfl, zE, z0, z4, -⟩ := hz
      show RW X G _ _ _ _ _ _ _ _ _ _ _ _ _ [.ref (89 + 7 * 3)]
      refine r_Vf [] dX10_feedbackTrouble_27 lk_X10_284 mb_X7_hasFewest in_X7_hasFewest se_X7_hasFewest rfl (c_X7_hasFewest (shOf hM h3)) rfl rfl rfl (Nat.le_of_ble_eq_true rfl) (rfl) ?_
      refine r_ifeq (tgt := 48) dX10_feedbackTrouble_30 (by decide) (fun zh30 => ?_) (fun zh30 => ?_)
      · refine r_iconst (v := 5) rfl dX10_feedbackTrouble_48 ?_
        exact r_iret hG dX10_feedbackTrouble_49 (by
            first
              | (have y1 : hasF (zW 110 13) = true := b2n.mp zh30
                 have y2 : hasF (zW2 117 13) = true := b2n.mp zh41
                 exact ⟨rfl, zE3, by rw [z02, z0], by rw [cW zW2 zB2 zE3, y110, if_pos y1, if_pos y2], fun _ _ => ⟨by rw [y110]; exact z4, fun _ => z42⟩⟩)
              | (have y1 : hasF (zW 110 13) = true := b2n.mp zh30
                 have y2 : ¬ hasF (zW2 117 13) = true := by rw [show hasF (zW2 117 13) = false from b2z.mp zh41]; decide
                 exact ⟨rfl, zE3, by rw [z02, z0], by rw [cW zW2 zB2 zE3, y110, if_pos y1, if_neg y2], fun _ _ => ⟨by rw [y110]; exact z4, fun _ => z42⟩⟩)
              | (have y1 : ¬ hasF (zW 110 13) = true := by rw [show hasF (zW 110 13) = false from b2z.mp zh30]; decide
                 exact ⟨rfl, zE, z0, by rw [cW zW zB zE, if_neg y1], fun _ _ => ⟨z4, fun q => absurd q y1⟩⟩))
      · refine r_aload_n 0 rfl dX10_feedbackTrouble_33 ?_
        refine r_iconst (v := 4) rfl dX10_feedbackTrouble_34 ?_
        refine r_Vg [.int _] dX10_feedbackTrouble_35 lk_X10_194 mb_X10_sheetOf in_X10_sheetOf se_X10_sheetOf rfl (c_X10_sheetOf (f := 4) hM hS2 hA (shE_A zE hAr) zE.2.2.2.2.2.1 h4) rfl rfl rfl (Nat.le_of_ble_eq_true rfl) (rfl) (fun r zW2 zB2 zC2 hz2 => ?_)
        obtain ⟨rfl, rfl, zE2, z02, z42, -⟩ := hz2
        have y110 : zW2 110 = zW 110 := (zE2.2.2.2.2.1 3 h3 z4 110 (by decide) (by decide)).1
        have zE3 := shE_tr zE zE2
        show RW X G _ _ _ _ _ _ _ _ _ _ _ _ _ [.ref (89 + 7 * 4)]
        refine r_Vf [] dX10_feedbackTrouble_38 lk_X10_284 mb_X7_hasFewest in_X7_hasFewest se_X7_hasFewest rfl (c_X7_hasFewest (shOf hM h4)) rfl rfl rfl (Nat.le_of_ble_eq_true rfl) (rfl) ?_
        refine r_ifeq (tgt := 48) dX10_feedbackTrouble_41 (by decide) (fun zh41 => ?_) (fun zh41 => ?_)
        · refine r_iconst (v := 5) rfl dX10_feedbackTrouble_48 ?_
          exact r_iret hG dX10_feedbackTrouble_49 (by
              first
                | (have y1 : hasF (zW 110 13) = true := b2n.mp zh30
                   have y2 : hasF (zW2 117 13) = true := b2n.mp zh41
                   exact ⟨rfl, zE3, by rw [z02, z0], by rw [cW zW2 zB2 zE3, y110, if_pos y1, if_pos y2], fun _ _ => ⟨by rw [y110]; exact z4, fun _ => z42⟩⟩)
                | (have y1 : hasF (zW 110 13) = true := b2n.mp zh30
                   have y2 : ¬ hasF (zW2 117 13) = true := by rw [show hasF (zW2 117 13) = false from b2z.mp zh41]; decide
                   exact ⟨rfl, zE3, by rw [z02, z0], by rw [cW zW2 zB2 zE3, y110, if_pos y1, if_neg y2], fun _ _ => ⟨by rw [y110]; exact z4, fun _ => z42⟩⟩)
                | (have y1 : ¬ hasF (zW 110 13) = true := by rw [show hasF (zW 110 13) = false from b2z.mp zh30]; decide
                   exact ⟨rfl, zE, z0, by rw [cW zW zB zE, if_neg y1], fun _ _ => ⟨z4, fun q => absurd q y1⟩⟩))
        · refine r_iconst (v := 0) rfl dX10_feedbackTrouble_44 ?_
          refine r_goto (tgt := 49) dX10_feedbackTrouble_45 (by decide) ?_
          exact r_iret hG dX10_feedbackTrouble_49 (by
              first
                | (have y1 : hasF (zW 110 13) = true := b2n.mp zh30
                   have y2 : hasF (zW2 117 13) = true := b2n.mp zh41
                   exact ⟨rfl, zE3, by rw [z02, z0], by rw [cW zW2 zB2 zE3, y110, if_pos y1, if_pos y2], fun _ _ => ⟨by rw [y110]; exact z4, fun _ => z42⟩⟩)
                | (have y1 : hasF (zW 110 13) = true := b2n.mp zh30
                   have y2 : ¬ hasF (zW2 117 13) = true := by rw [show hasF (zW2 117 13) = false from b2z.mp zh41]; decide
                   exact ⟨rfl, zE3, by rw [z02, z0], by rw [cW zW2 zB2 zE3, y110, if_pos y1, if_neg y2], fun _ _ => ⟨by rw [y110]; exact z4, fun _ => z42⟩⟩)
                | (have y1 : ¬ hasF (zW 110 13) = true := by rw [show hasF (zW 110 13) = false from b2z.mp zh30]; decide
                   exact ⟨rfl, zE, z0, by rw [cW zW zB zE, if_neg y1], fun _ _ => ⟨z4, fun q => absurd q y1⟩⟩))
    ·
      refine r_aload_n 0 rfl dX10_feedbackTrouble_0 ?_
      refine r_iload_n 1 rfl dX10_feedbackTrouble_1 ?_
      refine r_Vf [.int _] dX10_feedbackTrouble_2 lk_X10_153 mb_X10_hasArc in_X10_hasArc se_X10_hasArc rfl (c_X10_hasArc hM) rfl rfl rfl (Nat.le_of_ble_eq_true rfl) (rfl) ?_
      refine r_ifne (tgt := 10) dX10_feedbackTrouble_5 (by decide) (fun zh5 => ?_) (fun zh5 => ?_)
      rotate_left
      · exact absurd zh5 (by rw [if_pos hc]; decide)
      refine r_aload_n 0 rfl dX10_feedbackTrouble_10 ?_
      refine r_getr dX10_feedbackTrouble_11 fl_X10_35 rfl (hM _ _ _ rfl) ?_
      refine r_geti dX10_feedbackTrouble_14 fl_X10_127 rfl ?_
      refine r_ifeq (tgt := 22) dX10_feedbackTrouble_17 (by decide) (fun zh17 => ?_) (fun zh17 => ?_)
      · exact absurd zh17 (he)
      refine r_iconst (v := 5) rfl dX10_feedbackTrouble_20 ?_
      exact r_iret hG dX10_feedbackTrouble_21 (⟨rfl, shE_rf hI, rfl, by unfold fbTr; rw [if_pos hc, if_neg he], fun _ q => absurd q he⟩)
  ·
    refine r_aload_n 0 rfl dX10_feedbackTrouble_0 ?_
    refine r_iload_n 1 rfl dX10_feedbackTrouble_1 ?_
    refine r_Vf [.int _] dX10_feedbackTrouble_2 lk_X10_153 mb_X10_hasArc in_X10_hasArc se_X10_hasArc rfl (c_X10_hasArc hM) rfl rfl rfl (Nat.le_of_ble_eq_true rfl) (rfl) ?_
    refine r_ifne (tgt := 10) dX10_feedbackTrouble_5 (by decide) (fun zh5 => ?_) (fun zh5 => ?_)
    · exact absurd zh5 (fun q => q (by rw [if_neg hc]))
    refine r_iconst (v := 1) rfl dX10_feedbackTrouble_8 ?_
    exact r_iret hG dX10_feedbackTrouble_9 (⟨rfl, shE_rf hI, rfl, by unfold fbTr; rw [if_neg hc], fun q _ => absurd q hc⟩)
set_option maxRecDepth 100000 in
theorem c_X10_settle_1 (hM : x_Lay MR) (hS2 : x_S2 X) {A i : Nat} (hA : A ≤ 8) (hAr : MI 1 6 = nI A) (hI : shI MI ML A) (hi : i < A) (r3 : MI 110 4 = 1) (r4 : MI 117 4 = 1) (f3 : hasF (MI 110 13) = true) (f4 : hasF (MI 117 13) = true) : Cf X yX10_settle cX10_settle 8 (some .int) 12 [.ref 0, .int (nI i), .int 1] n SH MI ML MR (some (.int (opt2 (seV MI ML i).1))) MI ML MR := by
  have k3 := sK_e (W := MI) (f := 3) f3
  have k4 := sK_e (W := MI) (f := 4) f4
  have h3 : (3 : Nat) < 5 := by decide
  have h4 : (4 : Nat) < 5 := by decide
  obtain ⟨inp, hinp⟩ : ∃ inp, inp = pickV (MI 44) 6 (arP MI i 1) := ⟨_, rfl⟩
  obtain ⟨z, hz⟩ : ∃ z, z = seR (vlV MI ML 3) (vlV MI ML 4) inp 8 0 (pickV (MI 2) 6 (arP MI i 0)) := ⟨_, rfl⟩
  have hsv : seV MI ML i = z := by rw [hz, hinp]; rfl
  have p0 : partV MI 1 (nI i) 0 = arP MI i 0 := arP_nI (j := 0) (by omega) (by decide)
  have p1 : partV MI 1 (nI i) 1 = arP MI i 1 := arP_nI (j := 1) (by omega) (by decide)
  rw [hsv]
  refine Ct_of (by decide) (Nat.le_of_ble_eq_true rfl) (fun G hG => ?_)
  have loop : ∀ m, m ≤ 8 → ∀ c, seR (vlV MI ML 3) (vlV MI ML 4) inp (8 - m) m c = z → RW X G RX10 cX10_settle 8 (x_rm 12 0 0) n SH MI ML MR 0 0 44 [(5, .int (nI m)), (4, .int c), (3, .int inp), (0, .ref 0), (1, .int (nI i)), (2, .int 1)] [] := by
    refine bwd (fun m hm ih c hq => ?_)
    obtain ⟨p, hp⟩ : ∃ p, p = inp ||| (c <<< ((4 : Int32) &&& 31)) := ⟨_, rfl⟩
    obtain ⟨nx, hnx⟩ : ∃ nx, nx = (vlV MI ML 3 p ||| (vlV MI ML 4 p <<< ((1 : Int32) &&& 31))) := ⟨_, rfl⟩
    refine r_iload 0 rfl dX10_settle_44 ?_
    refine r_bipush (v := 8) rfl dX10_settle_46 ?_
    refine r_icmpge (tgt := 113) dX10_settle_48 (by decide) (fun zh48 => ?_) (fun zh48 => ?_)
    · have hme : m = 8 := by have := geL (k := 8) (by decide) (by omega) zh48; omega
      rw [hme, Nat.sub_self, seR] at hq
      refine r_iload_n 5 rfl dX10_settle_113 ?_
      refine r_ifeq (tgt := 122) dX10_settle_114 (by decide) (fun zh114 => ?_) (fun zh114 => ?_)
      · exact absurd zh114 (by decide)
      refine r_bipush (v := (-2)) rfl dX10_settle_117 ?_
      refine r_goto (tgt := 124) dX10_settle_119 (by decide) ?_
      exact r_iret hG dX10_settle_124 (by rw [← hq]; exact ⟨rfl, rfl, rfl, rfl⟩)
    · have hlt : m < 8 := ltL (by omega) zh48
      rw [show 8 - m = (8 - (m + 1)) + 1 by omega, seR, ← hp, ← hnx] at hq
      refine r_iload_n 2 rfl dX10_settle_51 ?_
      refine r_iload 1 rfl dX10_settle_52 ?_
      refine r_iconst (v := 4) rfl dX10_settle_54 ?_
      refine r_ishl dX10_settle_55 ?_
      refine r_ior dX10_settle_56 ?_
      rw [← hp]
      refine r_istore (ls2 := [(6, .int p), (5, .int (nI m)), (4, .int c), (3, .int inp), (0, .ref 0), (1, .int (nI i)), (2, .int 1)]) dX10_settle_57 (by decide) rfl ?_
      refine r_aload_n 4 rfl dX10_settle_59 ?_
      refine r_iconst (v := 3) rfl dX10_settle_60 ?_
      refine r_Vg [.int _] dX10_settle_61 lk_X10_194 mb_X10_sheetOf in_X10_sheetOf se_X10_sheetOf rfl (c_X10_sheetOf (f := 3) hM hS2 hA hAr hI h3) rfl rfl rfl (Nat.le_of_ble_eq_true rfl) (rfl) (fun r zW zB zC hz => ?_)
      obtain ⟨rfl, rfl, -, -, -, zs⟩ := hz
      obtain ⟨e1, e2⟩ := zs r3
      rw [e1, e2]
      show RW X G _ _ _ _ _ _ _ _ _ _ _ _ _ [.ref (89 + 7 * 3)]
      refine r_iload 0 rfl dX10_settle_64 ?_
      refine r_Vf [.int _] dX10_settle_66 lk_X10_287 mb_X7_valueAt in_X7_valueAt se_X7_valueAt rfl (c_X7_valueAt hM (shOf hM h3) k3.1 k3.2) rfl rfl rfl (Nat.le_of_ble_eq_true rfl) (rfl) ?_
      refine r_aload_n 4 rfl dX10_settle_69 ?_
      refine r_iconst (v := 4) rfl dX10_settle_70 ?_
      refine r_Vg [.int _] dX10_settle_71 lk_X10_194 mb_X10_sheetOf in_X10_sheetOf se_X10_sheetOf rfl (c_X10_sheetOf (f := 4) hM hS2 hA hAr hI h4) rfl rfl rfl (Nat.le_of_ble_eq_true rfl) (rfl) (fun r zW zB zC hz => ?_)
      obtain ⟨rfl, rfl, -, -, -, zs⟩ := hz
      obtain ⟨e1, e2⟩ := zs r4
      rw [e1, e2]
      show RW X G _ _ _ _ _ _ _ _ _ _ _ _ _ (.ref (89 + 7 * 4) :: [.int (vlV MI ML 3 p)])
      refine r_iload 0 rfl dX10_settle_74 ?_
      refine r_Vf [.int _] dX10_settle_76 lk_X10_287 mb_X7_valueAt in_X7_valueAt se_X7_valueAt rfl (c_X7_valueAt hM (shOf hM h4) k4.1 k4.2) rfl rfl rfl (Nat.le_of_ble_eq_true rfl) (rfl) ?_
      show RW X G _ _ _ _ _ _ _ _ _ _ _ _ _ (.int (vlV MI ML 4 p) :: [.int (vlV MI ML 3 p)])
      refine r_iconst (v := 1) rfl dX10_settle_79 ?_
      refine r_ishl dX10_settle_80 ?_
      refine r_ior dX10_settle_81 ?_
      rw [← hnx]
      refine r_istore (ls2 := [(7, .int nx), (6, .int p), (5, .int (nI m)), (4, .int c), (3, .int inp), (0, .ref 0), (1, .int (nI i)), (2, .int 1)]) dX10_settle_82 (by decide) rfl ?_
      refine r_iload 0 rfl dX10_settle_84 ?_
      refine r_iload 3 rfl dX10_settle_86 ?_
      refine r_icmpne (tgt := 103) dX10_settle_88 (by decide) (fun zh88 => ?_) (fun zh88 => ?_)
      · refine r_iload 0 rfl dX10_settle_103 ?_
        refine r_istore (ls2 := [(4, .int nx), (7, .int nx), (6, .int p), (5, .int (nI m)), (3, .int inp), (0, .ref 0), (1, .int (nI i)), (2, .int 1)]) dX10_settle_105 (by decide) rfl ?_
        refine r_iinc (v := (nI (m + 1))) (ls2 := [(5, .int (nI (m + 1))), (4, .int nx), (7, .int nx), (6, .int p), (3, .int inp), (0, .ref 0), (1, .int (nI i)), (2, .int 1)]) 3 dX10_settle_107 rfl (x_inc m) (by decide) rfl ?_
        refine r_goto (tgt := 44) dX10_settle_110 (by decide) ?_
        rw [if_neg zh88] at hq
        exact r_sub [0, 1, 4, 5, 6, 7] rfl (ih hlt _ hq)
      · refine r_iload_n 7 rfl dX10_settle_91 ?_
        refine r_ifeq (tgt := 100) dX10_settle_92 (by decide) (fun zh92 => ?_) (fun zh92 => ?_)
        · exact absurd zh92 (by decide)
        refine r_iload 2 rfl dX10_settle_95 ?_
        refine r_goto (tgt := 102) dX10_settle_97 (by decide) ?_
        exact r_iret hG dX10_settle_102 (by rw [if_pos zh88] at hq; rw [← hq]; exact ⟨rfl, rfl, rfl, rfl⟩)
  refine r_aload_n 0 rfl dX10_settle_0 ?_
  refine r_getr dX10_settle_1 fl_X10_35 rfl (hM _ _ _ rfl) ?_
  refine r_getr dX10_settle_4 fl_X10_147 rfl (hM _ _ _ rfl) ?_
  refine r_aload_n 0 rfl dX10_settle_7 ?_
  refine r_getr dX10_settle_8 fl_X10_10 rfl (hM _ _ _ rfl) ?_
  refine r_iload_n 1 rfl dX10_settle_11 ?_
  refine r_iconst (v := 1) rfl dX10_settle_12 ?_
  refine r_Vf [.int _, .int _] dX10_settle_13 lk_X10_159 mb_X5_part in_X5_part se_X5_part rfl (c_X5_part_1 hM) rfl rfl rfl (Nat.le_of_ble_eq_true rfl) (rfl) ?_
  refine r_Sf [.ref _, .int _] dX10_settle_16 lk_X10_140 mb_X10_pick sc_X10_pick rfl (c_X10_pick (N := 6) rfl (by decide)) rfl (Nat.le_of_ble_eq_true rfl) (rfl) ?_
  rw [p1, ← hinp]
  refine r_istore_n (ls2 := [(3, .int inp), (0, .ref 0), (1, .int (nI i)), (2, .int 1)]) dX10_settle_19 (by decide) rfl ?_
  refine r_aload_n 1 rfl dX10_settle_20 ?_
  refine r_getr dX10_settle_21 fl_X10_10 rfl (hM _ _ _ rfl) ?_
  refine r_getr dX10_settle_24 fl_X10_136 rfl (hM _ _ _ rfl) ?_
  refine r_aload_n 1 rfl dX10_settle_27 ?_
  refine r_getr dX10_settle_28 fl_X10_10 rfl (hM _ _ _ rfl) ?_
  refine r_iload_n 2 rfl dX10_settle_31 ?_
  refine r_iconst (v := 0) rfl dX10_settle_32 ?_
  refine r_Vf [.int _, .int _] dX10_settle_33 lk_X10_159 mb_X5_part in_X5_part se_X5_part rfl (c_X5_part_1 hM) rfl rfl rfl (Nat.le_of_ble_eq_true rfl) (rfl) ?_
  refine r_Sf [.ref _, .int _] dX10_settle_36 lk_X10_140 mb_X10_pick sc_X10_pick rfl (c_X10_pick (N := 6) rfl (by decide)) rfl (Nat.le_of_ble_eq_true rfl) (rfl) ?_
  rw [p0]
  refine r_istore (ls2 := [(4, .int (pickV (MI 2) 6 (arP MI i 0))), (3, .int inp), (0, .ref 0), (1, .int (nI i)), (2, .int 1)]) dX10_settle_39 (by decide) rfl ?_
  refine r_iconst (v := 0) rfl dX10_settle_41 ?_
  refine r_istore (ls2 := [(5, .int 0), (4, .int (pickV (MI 2) 6 (arP MI i 0))), (3, .int inp), (0, .ref 0), (1, .int (nI i)), (2, .int 1)]) dX10_settle_42 (by decide) rfl ?_
  exact r_sub [0, 1, 2, 3, 4, 5] rfl (loop 0 (Nat.zero_le _) _ hz.symm)
def se1Ans (y : Int32) (W : Mi) (B : Nat → Nat → Int64) : Int32 × Int32 := if fbTr W y = 0 then (opt2 (seV W B y.toNatClampNeg).1, 0) else (-1, fbTr W y)
set_option maxRecDepth 100000 in
theorem c_X10_settle_0 (hM : x_Lay MR) (hS2 : x_S2 X) {A i : Nat} (hA : A ≤ 8) (hAr : MI 1 6 = nI A) (hI : shI MI ML A) (hi : i < A) (r3 : MI 110 4 = 1) (r4 : MI 117 4 = 1) (f3 : hasF (MI 110 13) = true) (f4 : hasF (MI 117 13) = true) : Cf X yX10_settle cX10_settle 8 (some .int) 12 [.ref 0, .int (nI i), .int 0] n SH MI ML MR (some (.int ((seV MI ML i).2))) MI ML MR := by
  have k3 := sK_e (W := MI) (f := 3) f3
  have k4 := sK_e (W := MI) (f := 4) f4
  have h3 : (3 : Nat) < 5 := by decide
  have h4 : (4 : Nat) < 5 := by decide
  obtain ⟨inp, hinp⟩ : ∃ inp, inp = pickV (MI 44) 6 (arP MI i 1) := ⟨_, rfl⟩
  obtain ⟨z, hz⟩ : ∃ z, z = seR (vlV MI ML 3) (vlV MI ML 4) inp 8 0 (pickV (MI 2) 6 (arP MI i 0)) := ⟨_, rfl⟩
  have hsv : seV MI ML i = z := by rw [hz, hinp]; rfl
  have p0 : partV MI 1 (nI i) 0 = arP MI i 0 := arP_nI (j := 0) (by omega) (by decide)
  have p1 : partV MI 1 (nI i) 1 = arP MI i 1 := arP_nI (j := 1) (by omega) (by decide)
  rw [hsv]
  refine Ct_of (by decide) (Nat.le_of_ble_eq_true rfl) (fun G hG => ?_)
  have loop : ∀ m, m ≤ 8 → ∀ c, seR (vlV MI ML 3) (vlV MI ML 4) inp (8 - m) m c = z → RW X G RX10 cX10_settle 8 (x_rm 12 0 0) n SH MI ML MR 0 0 44 [(5, .int (nI m)), (4, .int c), (3, .int inp), (0, .ref 0), (1, .int (nI i)), (2, .int 0)] [] := by
    refine bwd (fun m hm ih c hq => ?_)
    obtain ⟨p, hp⟩ : ∃ p, p = inp ||| (c <<< ((4 : Int32) &&& 31)) := ⟨_, rfl⟩
    obtain ⟨nx, hnx⟩ : ∃ nx, nx = (vlV MI ML 3 p ||| (vlV MI ML 4 p <<< ((1 : Int32) &&& 31))) := ⟨_, rfl⟩
    refine r_iload 0 rfl dX10_settle_44 ?_
    refine r_bipush (v := 8) rfl dX10_settle_46 ?_
    refine r_icmpge (tgt := 113) dX10_settle_48 (by decide) (fun zh48 => ?_) (fun zh48 => ?_)
    · have hme : m = 8 := by have := geL (k := 8) (by decide) (by omega) zh48; omega
      rw [hme, Nat.sub_self, seR] at hq
      refine r_iload_n 5 rfl dX10_settle_113 ?_
      refine r_ifeq (tgt := 122) dX10_settle_114 (by decide) (fun zh114 => ?_) (fun zh114 => ?_)
      rotate_left
      · exact absurd zh114 (by decide)
      refine r_iload 1 rfl dX10_settle_122 ?_
      exact r_iret hG dX10_settle_124 (by rw [← hq]; exact ⟨rfl, rfl, rfl, rfl⟩)
    · have hlt : m < 8 := ltL (by omega) zh48
      rw [show 8 - m = (8 - (m + 1)) + 1 by omega, seR, ← hp, ← hnx] at hq
      refine r_iload_n 2 rfl dX10_settle_51 ?_
      refine r_iload 1 rfl dX10_settle_52 ?_
      refine r_iconst (v := 4) rfl dX10_settle_54 ?_
      refine r_ishl dX10_settle_55 ?_
      refine r_ior dX10_settle_56 ?_
      rw [← hp]
      refine r_istore (ls2 := [(6, .int p), (5, .int (nI m)), (4, .int c), (3, .int inp), (0, .ref 0), (1, .int (nI i)), (2, .int 0)]) dX10_settle_57 (by decide) rfl ?_
      refine r_aload_n 4 rfl dX10_settle_59 ?_
      refine r_iconst (v := 3) rfl dX10_settle_60 ?_
      refine r_Vg [.int _] dX10_settle_61 lk_X10_194 mb_X10_sheetOf in_X10_sheetOf se_X10_sheetOf rfl (c_X10_sheetOf (f := 3) hM hS2 hA hAr hI h3) rfl rfl rfl (Nat.le_of_ble_eq_true rfl) (rfl) (fun r zW zB zC hz => ?_)
      obtain ⟨rfl, rfl, -, -, -, zs⟩ := hz
      obtain ⟨e1, e2⟩ := zs r3
      rw [e1, e2]
      show RW X G _ _ _ _ _ _ _ _ _ _ _ _ _ [.ref (89 + 7 * 3)]
      refine r_iload 0 rfl dX10_settle_64 ?_
      refine r_Vf [.int _] dX10_settle_66 lk_X10_287 mb_X7_valueAt in_X7_valueAt se_X7_valueAt rfl (c_X7_valueAt hM (shOf hM h3) k3.1 k3.2) rfl rfl rfl (Nat.le_of_ble_eq_true rfl) (rfl) ?_
      refine r_aload_n 4 rfl dX10_settle_69 ?_
      refine r_iconst (v := 4) rfl dX10_settle_70 ?_
      refine r_Vg [.int _] dX10_settle_71 lk_X10_194 mb_X10_sheetOf in_X10_sheetOf se_X10_sheetOf rfl (c_X10_sheetOf (f := 4) hM hS2 hA hAr hI h4) rfl rfl rfl (Nat.le_of_ble_eq_true rfl) (rfl) (fun r zW zB zC hz => ?_)
      obtain ⟨rfl, rfl, -, -, -, zs⟩ := hz
      obtain ⟨e1, e2⟩ := zs r4
      rw [e1, e2]
      show RW X G _ _ _ _ _ _ _ _ _ _ _ _ _ (.ref (89 + 7 * 4) :: [.int (vlV MI ML 3 p)])
      refine r_iload 0 rfl dX10_settle_74 ?_
      refine r_Vf [.int _] dX10_settle_76 lk_X10_287 mb_X7_valueAt in_X7_valueAt se_X7_valueAt rfl (c_X7_valueAt hM (shOf hM h4) k4.1 k4.2) rfl rfl rfl (Nat.le_of_ble_eq_true rfl) (rfl) ?_
      show RW X G _ _ _ _ _ _ _ _ _ _ _ _ _ (.int (vlV MI ML 4 p) :: [.int (vlV MI ML 3 p)])
      refine r_iconst (v := 1) rfl dX10_settle_79 ?_
      refine r_ishl dX10_settle_80 ?_
      refine r_ior dX10_settle_81 ?_
      rw [← hnx]
      refine r_istore (ls2 := [(7, .int nx), (6, .int p), (5, .int (nI m)), (4, .int c), (3, .int inp), (0, .ref 0), (1, .int (nI i)), (2, .int 0)]) dX10_settle_82 (by decide) rfl ?_
      refine r_iload 0 rfl dX10_settle_84 ?_
      refine r_iload 3 rfl dX10_settle_86 ?_
      refine r_icmpne (tgt := 103) dX10_settle_88 (by decide) (fun zh88 => ?_) (fun zh88 => ?_)
      · refine r_iload 0 rfl dX10_settle_103 ?_
        refine r_istore (ls2 := [(4, .int nx), (7, .int nx), (6, .int p), (5, .int (nI m)), (3, .int inp), (0, .ref 0), (1, .int (nI i)), (2, .int 0)]) dX10_settle_105 (by decide) rfl ?_
        refine r_iinc (v := (nI (m + 1))) (ls2 := [(5, .int (nI (m + 1))), (4, .int nx), (7, .int nx), (6, .int p), (3, .int inp), (0, .ref 0), (1, .int (nI i)), (2, .int 0)]) 3 dX10_settle_107 rfl (x_inc m) (by decide) rfl ?_
        refine r_goto (tgt := 44) dX10_settle_110 (by decide) ?_
        rw [if_neg zh88] at hq
        exact r_sub [0, 1, 4, 5, 6, 7] rfl (ih hlt _ hq)
      · refine r_iload_n 7 rfl dX10_settle_91 ?_
        refine r_ifeq (tgt := 100) dX10_settle_92 (by decide) (fun zh92 => ?_) (fun zh92 => ?_)
        rotate_left
        · exact absurd zh92 (by decide)
        refine r_iload 3 rfl dX10_settle_100 ?_
        exact r_iret hG dX10_settle_102 (by rw [if_pos zh88] at hq; rw [← hq]; exact ⟨rfl, rfl, rfl, rfl⟩)
  refine r_aload_n 0 rfl dX10_settle_0 ?_
  refine r_getr dX10_settle_1 fl_X10_35 rfl (hM _ _ _ rfl) ?_
  refine r_getr dX10_settle_4 fl_X10_147 rfl (hM _ _ _ rfl) ?_
  refine r_aload_n 0 rfl dX10_settle_7 ?_
  refine r_getr dX10_settle_8 fl_X10_10 rfl (hM _ _ _ rfl) ?_
  refine r_iload_n 1 rfl dX10_settle_11 ?_
  refine r_iconst (v := 1) rfl dX10_settle_12 ?_
  refine r_Vf [.int _, .int _] dX10_settle_13 lk_X10_159 mb_X5_part in_X5_part se_X5_part rfl (c_X5_part_1 hM) rfl rfl rfl (Nat.le_of_ble_eq_true rfl) (rfl) ?_
  refine r_Sf [.ref _, .int _] dX10_settle_16 lk_X10_140 mb_X10_pick sc_X10_pick rfl (c_X10_pick (N := 6) rfl (by decide)) rfl (Nat.le_of_ble_eq_true rfl) (rfl) ?_
  rw [p1, ← hinp]
  refine r_istore_n (ls2 := [(3, .int inp), (0, .ref 0), (1, .int (nI i)), (2, .int 0)]) dX10_settle_19 (by decide) rfl ?_
  refine r_aload_n 1 rfl dX10_settle_20 ?_
  refine r_getr dX10_settle_21 fl_X10_10 rfl (hM _ _ _ rfl) ?_
  refine r_getr dX10_settle_24 fl_X10_136 rfl (hM _ _ _ rfl) ?_
  refine r_aload_n 1 rfl dX10_settle_27 ?_
  refine r_getr dX10_settle_28 fl_X10_10 rfl (hM _ _ _ rfl) ?_
  refine r_iload_n 2 rfl dX10_settle_31 ?_
  refine r_iconst (v := 0) rfl dX10_settle_32 ?_
  refine r_Vf [.int _, .int _] dX10_settle_33 lk_X10_159 mb_X5_part in_X5_part se_X5_part rfl (c_X5_part_1 hM) rfl rfl rfl (Nat.le_of_ble_eq_true rfl) (rfl) ?_
  refine r_Sf [.ref _, .int _] dX10_settle_36 lk_X10_140 mb_X10_pick sc_X10_pick rfl (c_X10_pick (N := 6) rfl (by decide)) rfl (Nat.le_of_ble_eq_true rfl) (rfl) ?_
  rw [p0]
  refine r_istore (ls2 := [(4, .int (pickV (MI 2) 6 (arP MI i 0))), (3, .int inp), (0, .ref 0), (1, .int (nI i)), (2, .int 0)]) dX10_settle_39 (by decide) rfl ?_
  refine r_iconst (v := 0) rfl dX10_settle_41 ?_
  refine r_istore (ls2 := [(5, .int 0), (4, .int (pickV (MI 2) 6 (arP MI i 0))), (3, .int inp), (0, .ref 0), (1, .int (nI i)), (2, .int 0)]) dX10_settle_42 (by decide) rfl ?_
  exact r_sub [0, 1, 2, 3, 4, 5] rfl (loop 0 (Nat.zero_le _) _ hz.symm)
def se0Ans (y : Int32) (W : Mi) (B : Nat → Nat → Int64) : Int32 × Int32 := if fbTr W y = 0 then ((seV W B y.toNatClampNeg).2, 0) else (-1, fbTr W y)
theorem seV_u {W : Mi} {B : Nat → Nat → Int64} {i : Nat} {w : Int32} : seV (u2 W 0 8 w) B i = seV W B i := by
  have e : ∀ b, b ≠ 0 → u2 W 0 8 w b = W b := fun b h => u2_row _ _ h
  have ev : ∀ f, vlV (u2 W 0 8 w) B f = vlV W B f := fun f => by
    funext p
    unfold vlV
    rw [rsV_u]
  have ea : arP (u2 W 0 8 w) = arP W := by
    funext i j
    exact congrFun (e (4 + i) (by omega)) j
  unfold seV
  rw [ev, ev, ea, e 44 (by decide), e 2 (by decide)]
set_option maxRecDepth 100000 in
theorem c_X10_settles (hM : x_Lay MR) (hS2 : x_S2 X) {A : Nat} (hA : A ≤ 8) (hAr : MI 1 6 = nI A) (hI : shI MI ML A) {y : Int32} : Ct X yX10_settles cX10_settles 3 (some .int) 13 0 0 [.ref 0, .int y] n SH MI ML MR n SH (fun r W B C => C = MR ∧ shE MI ML A W B ∧ r = some (.int (se1Ans y W B).1) ∧ W 0 8 = (se1Ans y W B).2 ∧ fbR W y) := by
  refine Ct_of (by decide) (Nat.le_of_ble_eq_true rfl) (fun G hG => ?_)
  have j5 : ∀ zW zB, shE MI ML A zW zB → fbR zW y → RW X G RX10 cX10_settles 3 (x_rm 13 0 0) n SH zW zB MR 0 0 5 [(0, .ref 0), (1, .int y)] [.int (fbTr zW y)] := by
    intro zW zB hE hR
    have hend : ∀ a w, se1Ans y (u2 zW 0 8 w) zB = (a, w) → (fun r W B C => C = MR ∧ shE MI ML A W B ∧ r = some (.int (se1Ans y W B).1) ∧ W 0 8 = (se1Ans y W B).2 ∧ fbR W y : xQ) (some (.int a)) (u2 zW 0 8 w) zB MR := fun a w ha => ⟨rfl, shE_w hE, by rw [ha], by rw [ha]; exact u2_eq _ _ _ _, hR⟩
    by_cases h1 : fbTr zW y = 0
    · obtain ⟨g1, g2, g3, g4⟩ := fbTr_0 h1
      obtain ⟨q3, q4⟩ := hR g1 g2
      obtain ⟨i, hi, rfl⟩ : ∃ i, i < A ∧ y = nI i := by
        rw [shE_A hE hAr] at g1
        exact inR_ex (by omega) (inR_t.mp g1).1 (inR_t.mp g1).2
      refine r_istore_n (ls2 := [(2, .int (fbTr zW (nI i))), (0, .ref 0), (1, .int (nI i))]) dX10_settles_5 (by decide) rfl ?_
      refine r_iload_n 0 rfl dX10_settles_6 ?_
      refine r_ifne (tgt := 23) dX10_settles_7 (by decide) (fun zh7 => ?_) (fun zh7 => ?_)
      · exact absurd zh7 (fun q => q h1)
      refine r_aload_n 1 rfl dX10_settles_10 ?_
      refine r_aload_n 1 rfl dX10_settles_11 ?_
      refine r_iload_n 2 rfl dX10_settles_12 ?_
      refine r_iconst (v := 1) rfl dX10_settles_13 ?_
      refine r_Vf [.int _, .int _] dX10_settles_14 lk_X10_263 mb_X10_settle in_X10_settle se_X10_settle rfl (c_X10_settle_1 hM hS2 hA (shE_A hE hAr) hE.2.2.2.2.2.1 hi q3 (q4 g3) g3 g4) rfl rfl rfl (Nat.le_of_ble_eq_true rfl) (rfl) ?_
      refine r_Vf [.int _] dX10_settles_17 lk_X10_115 mb_X10_told in_X10_told se_X10_told rfl (c_X10_told) rfl rfl rfl (Nat.le_of_ble_eq_true rfl) (rfl) ?_
      refine r_goto (tgt := 28) dX10_settles_20 (by decide) ?_
      exact r_iret hG dX10_settles_28 (hend _ _ (by unfold se1Ans; rw [fbTr_u, if_pos h1, nI_clamp (by omega), seV_u]))
    ·
      refine r_istore_n (ls2 := [(2, .int (fbTr zW y)), (0, .ref 0), (1, .int y)]) dX10_settles_5 (by decide) rfl ?_
      refine r_iload_n 0 rfl dX10_settles_6 ?_
      refine r_ifne (tgt := 23) dX10_settles_7 (by decide) (fun zh7 => ?_) (fun zh7 => ?_)
      rotate_left
      · exact absurd zh7 (h1)
      refine r_aload_n 1 rfl dX10_settles_23 ?_
      refine r_iload_n 0 rfl dX10_settles_24 ?_
      refine r_Vf [.int _] dX10_settles_25 lk_X10_86 mb_X10_refuse in_X10_refuse se_X10_refuse rfl (c_X10_refuse) rfl rfl rfl (Nat.le_of_ble_eq_true rfl) (rfl) ?_
      exact r_iret hG dX10_settles_28 (hend _ _ (by unfold se1Ans; rw [fbTr_u, if_neg h1]))
  refine r_aload_n 0 rfl dX10_settles_0 ?_
  refine r_iload_n 1 rfl dX10_settles_1 ?_
  refine r_Vg [.int _] dX10_settles_2 lk_X10_260 mb_X10_feedbackTrouble in_X10_feedbackTrouble se_X10_feedbackTrouble rfl (c_X10_feedbackTrouble hM hS2 hA hAr hI) rfl rfl rfl (Nat.le_of_ble_eq_true rfl) (rfl) (fun r zW zB zC hz => ?_)
  obtain ⟨rfl, zE, -, rfl, zR⟩ := hz
  exact j5 zW zB zE zR
  skip
set_option maxRecDepth 100000 in
theorem c_X10_settled (hM : x_Lay MR) (hS2 : x_S2 X) {A : Nat} (hA : A ≤ 8) (hAr : MI 1 6 = nI A) (hI : shI MI ML A) {y : Int32} : Ct X yX10_settled cX10_settled 3 (some .int) 13 0 0 [.ref 0, .int y] n SH MI ML MR n SH (fun r W B C => C = MR ∧ shE MI ML A W B ∧ r = some (.int (se0Ans y W B).1) ∧ W 0 8 = (se0Ans y W B).2 ∧ fbR W y) := by
  refine Ct_of (by decide) (Nat.le_of_ble_eq_true rfl) (fun G hG => ?_)
  have j5 : ∀ zW zB, shE MI ML A zW zB → fbR zW y → RW X G RX10 cX10_settled 3 (x_rm 13 0 0) n SH zW zB MR 0 0 5 [(0, .ref 0), (1, .int y)] [.int (fbTr zW y)] := by
    intro zW zB hE hR
    have hend : ∀ a w, se0Ans y (u2 zW 0 8 w) zB = (a, w) → (fun r W B C => C = MR ∧ shE MI ML A W B ∧ r = some (.int (se0Ans y W B).1) ∧ W 0 8 = (se0Ans y W B).2 ∧ fbR W y : xQ) (some (.int a)) (u2 zW 0 8 w) zB MR := fun a w ha => ⟨rfl, shE_w hE, by rw [ha], by rw [ha]; exact u2_eq _ _ _ _, hR⟩
    by_cases h1 : fbTr zW y = 0
    · obtain ⟨g1, g2, g3, g4⟩ := fbTr_0 h1
      obtain ⟨q3, q4⟩ := hR g1 g2
      obtain ⟨i, hi, rfl⟩ : ∃ i, i < A ∧ y = nI i := by
        rw [shE_A hE hAr] at g1
        exact inR_ex (by omega) (inR_t.mp g1).1 (inR_t.mp g1).2
      refine r_istore_n (ls2 := [(2, .int (fbTr zW (nI i))), (0, .ref 0), (1, .int (nI i))]) dX10_settled_5 (by decide) rfl ?_
      refine r_iload_n 0 rfl dX10_settled_6 ?_
      refine r_ifne (tgt := 23) dX10_settled_7 (by decide) (fun zh7 => ?_) (fun zh7 => ?_)
      · exact absurd zh7 (fun q => q h1)
      refine r_aload_n 1 rfl dX10_settled_10 ?_
      refine r_aload_n 1 rfl dX10_settled_11 ?_
      refine r_iload_n 2 rfl dX10_settled_12 ?_
      refine r_iconst (v := 0) rfl dX10_settled_13 ?_
      refine r_Vf [.int _, .int _] dX10_settled_14 lk_X10_263 mb_X10_settle in_X10_settle se_X10_settle rfl (c_X10_settle_0 hM hS2 hA (shE_A hE hAr) hE.2.2.2.2.2.1 hi q3 (q4 g3) g3 g4) rfl rfl rfl (Nat.le_of_ble_eq_true rfl) (rfl) ?_
      refine r_Vf [.int _] dX10_settled_17 lk_X10_115 mb_X10_told in_X10_told se_X10_told rfl (c_X10_told) rfl rfl rfl (Nat.le_of_ble_eq_true rfl) (rfl) ?_
      refine r_goto (tgt := 28) dX10_settled_20 (by decide) ?_
      exact r_iret hG dX10_settled_28 (hend _ _ (by unfold se0Ans; rw [fbTr_u, if_pos h1, nI_clamp (by omega), seV_u]))
    ·
      refine r_istore_n (ls2 := [(2, .int (fbTr zW y)), (0, .ref 0), (1, .int y)]) dX10_settled_5 (by decide) rfl ?_
      refine r_iload_n 0 rfl dX10_settled_6 ?_
      refine r_ifne (tgt := 23) dX10_settled_7 (by decide) (fun zh7 => ?_) (fun zh7 => ?_)
      rotate_left
      · exact absurd zh7 (h1)
      refine r_aload_n 1 rfl dX10_settled_23 ?_
      refine r_iload_n 0 rfl dX10_settled_24 ?_
      refine r_Vf [.int _] dX10_settled_25 lk_X10_86 mb_X10_refuse in_X10_refuse se_X10_refuse rfl (c_X10_refuse) rfl rfl rfl (Nat.le_of_ble_eq_true rfl) (rfl) ?_
      exact r_iret hG dX10_settled_28 (hend _ _ (by unfold se0Ans; rw [fbTr_u, if_neg h1]))
  refine r_aload_n 0 rfl dX10_settled_0 ?_
  refine r_iload_n 1 rfl dX10_settled_1 ?_
  refine r_Vg [.int _] dX10_settled_2 lk_X10_260 mb_X10_feedbackTrouble in_X10_feedbackTrouble se_X10_feedbackTrouble rfl (c_X10_feedbackTrouble hM hS2 hA hAr hI) rfl rfl rfl (Nat.le_of_ble_eq_true rfl) (rfl) (fun r zW zB zC hz => ?_)
  obtain ⟨rfl, zE, -, rfl, zR⟩ := hz
  exact j5 zW zB zE zR
  skip
/-! codes -/
def cdTr (MI : Mi) (x : Int32) : Int32 := if MI 1 0 = 0 then 1 else if 0 < MI 43 6 ∧ MI 43 6 < 5 then 5 else if ¬ x < 1 ∧ ¬ (4 : Int32) < x then 0 else 2
set_option maxRecDepth 100000 in
theorem c_X10_codingTrouble (hM : x_Lay MR) {x : Int32} : Cf X yX10_codingTrouble cX10_codingTrouble 2 (some .int) 1 [.ref 0, .int x] n SH MI ML MR (some (.int (cdTr MI x))) MI ML MR := by
  refine Ct_of (by decide) (Nat.le_of_ble_eq_true rfl) (fun G hG => ?_)
  refine r_aload_n 0 rfl dX10_codingTrouble_0 ?_
  refine r_getr dX10_codingTrouble_1 fl_X10_10 rfl (hM _ _ _ rfl) ?_
  refine r_geti dX10_codingTrouble_4 fl_X10_124 rfl ?_
  refine r_ifne (tgt := 12) dX10_codingTrouble_7 (by decide) (fun zh7 => ?_) (fun zh7 => ?_)
  · refine r_aload_n 0 rfl dX10_codingTrouble_12 ?_
    refine r_getr dX10_codingTrouble_13 fl_X10_35 rfl (hM _ _ _ rfl) ?_
    refine r_geti dX10_codingTrouble_16 fl_X10_127 rfl ?_
    refine r_ifle (tgt := 35) dX10_codingTrouble_19 (by decide) (fun zh19 => ?_) (fun zh19 => ?_)
    · refine r_iload_n 1 rfl dX10_codingTrouble_35 ?_
      refine r_iconst (v := 1) rfl dX10_codingTrouble_36 ?_
      refine r_icmplt (tgt := 49) dX10_codingTrouble_37 (by decide) (fun zh37 => ?_) (fun zh37 => ?_)
      · refine r_iconst (v := 2) rfl dX10_codingTrouble_49 ?_
        exact r_iret hG dX10_codingTrouble_50 (by
            refine ⟨?_, rfl, rfl, rfl⟩
            unfold cdTr
            first
              | (rw [if_pos zh7]; done)
              | (have y1 : 0 < MI 43 6 ∧ MI 43 6 < 5 := ⟨Int32.not_le.mp zh19, Int32.not_le.mp zh30⟩
                 rw [if_neg zh7, if_pos y1]; done)
              | (have y1 : ¬ (0 < MI 43 6 ∧ MI 43 6 < 5) := fun q => absurd q.2 (Int32.not_lt.mpr zh30)
                 first
                   | (have y2 : ¬ x < 1 ∧ ¬ (4 : Int32) < x := ⟨zh37, zh42⟩
                      rw [if_neg zh7, if_neg y1, if_pos y2]; done)
                   | (have y2 : ¬ (¬ x < 1 ∧ ¬ (4 : Int32) < x) := fun q => q.2 zh42
                      rw [if_neg zh7, if_neg y1, if_neg y2]; done)
                   | (have y2 : ¬ (¬ x < 1 ∧ ¬ (4 : Int32) < x) := fun q => q.1 zh37
                      rw [if_neg zh7, if_neg y1, if_neg y2]; done))
              | (have y1 : ¬ (0 < MI 43 6 ∧ MI 43 6 < 5) := fun q => absurd q.1 (Int32.not_lt.mpr zh19)
                 first
                   | (have y2 : ¬ x < 1 ∧ ¬ (4 : Int32) < x := ⟨zh37, zh42⟩
                      rw [if_neg zh7, if_neg y1, if_pos y2]; done)
                   | (have y2 : ¬ (¬ x < 1 ∧ ¬ (4 : Int32) < x) := fun q => q.2 zh42
                      rw [if_neg zh7, if_neg y1, if_neg y2]; done)
                   | (have y2 : ¬ (¬ x < 1 ∧ ¬ (4 : Int32) < x) := fun q => q.1 zh37
                      rw [if_neg zh7, if_neg y1, if_neg y2]; done)))
      · refine r_iload_n 1 rfl dX10_codingTrouble_40 ?_
        refine r_iconst (v := 4) rfl dX10_codingTrouble_41 ?_
        refine r_icmpgt (tgt := 49) dX10_codingTrouble_42 (by decide) (fun zh42 => ?_) (fun zh42 => ?_)
        · refine r_iconst (v := 2) rfl dX10_codingTrouble_49 ?_
          exact r_iret hG dX10_codingTrouble_50 (by
              refine ⟨?_, rfl, rfl, rfl⟩
              unfold cdTr
              first
                | (rw [if_pos zh7]; done)
                | (have y1 : 0 < MI 43 6 ∧ MI 43 6 < 5 := ⟨Int32.not_le.mp zh19, Int32.not_le.mp zh30⟩
                   rw [if_neg zh7, if_pos y1]; done)
                | (have y1 : ¬ (0 < MI 43 6 ∧ MI 43 6 < 5) := fun q => absurd q.2 (Int32.not_lt.mpr zh30)
                   first
                     | (have y2 : ¬ x < 1 ∧ ¬ (4 : Int32) < x := ⟨zh37, zh42⟩
                        rw [if_neg zh7, if_neg y1, if_pos y2]; done)
                     | (have y2 : ¬ (¬ x < 1 ∧ ¬ (4 : Int32) < x) := fun q => q.2 zh42
                        rw [if_neg zh7, if_neg y1, if_neg y2]; done)
                     | (have y2 : ¬ (¬ x < 1 ∧ ¬ (4 : Int32) < x) := fun q => q.1 zh37
                        rw [if_neg zh7, if_neg y1, if_neg y2]; done))
                | (have y1 : ¬ (0 < MI 43 6 ∧ MI 43 6 < 5) := fun q => absurd q.1 (Int32.not_lt.mpr zh19)
                   first
                     | (have y2 : ¬ x < 1 ∧ ¬ (4 : Int32) < x := ⟨zh37, zh42⟩
                        rw [if_neg zh7, if_neg y1, if_pos y2]; done)
                     | (have y2 : ¬ (¬ x < 1 ∧ ¬ (4 : Int32) < x) := fun q => q.2 zh42
                        rw [if_neg zh7, if_neg y1, if_neg y2]; done)
                     | (have y2 : ¬ (¬ x < 1 ∧ ¬ (4 : Int32) < x) := fun q => q.1 zh37
                        rw [if_neg zh7, if_neg y1, if_neg y2]; done)))
        · refine r_iconst (v := 0) rfl dX10_codingTrouble_45 ?_
          refine r_goto (tgt := 50) dX10_codingTrouble_46 (by decide) ?_
          exact r_iret hG dX10_codingTrouble_50 (by
              refine ⟨?_, rfl, rfl, rfl⟩
              unfold cdTr
              first
                | (rw [if_pos zh7]; done)
                | (have y1 : 0 < MI 43 6 ∧ MI 43 6 < 5 := ⟨Int32.not_le.mp zh19, Int32.not_le.mp zh30⟩
                   rw [if_neg zh7, if_pos y1]; done)
                | (have y1 : ¬ (0 < MI 43 6 ∧ MI 43 6 < 5) := fun q => absurd q.2 (Int32.not_lt.mpr zh30)
                   first
                     | (have y2 : ¬ x < 1 ∧ ¬ (4 : Int32) < x := ⟨zh37, zh42⟩
                        rw [if_neg zh7, if_neg y1, if_pos y2]; done)
                     | (have y2 : ¬ (¬ x < 1 ∧ ¬ (4 : Int32) < x) := fun q => q.2 zh42
                        rw [if_neg zh7, if_neg y1, if_neg y2]; done)
                     | (have y2 : ¬ (¬ x < 1 ∧ ¬ (4 : Int32) < x) := fun q => q.1 zh37
                        rw [if_neg zh7, if_neg y1, if_neg y2]; done))
                | (have y1 : ¬ (0 < MI 43 6 ∧ MI 43 6 < 5) := fun q => absurd q.1 (Int32.not_lt.mpr zh19)
                   first
                     | (have y2 : ¬ x < 1 ∧ ¬ (4 : Int32) < x := ⟨zh37, zh42⟩
                        rw [if_neg zh7, if_neg y1, if_pos y2]; done)
                     | (have y2 : ¬ (¬ x < 1 ∧ ¬ (4 : Int32) < x) := fun q => q.2 zh42
                        rw [if_neg zh7, if_neg y1, if_neg y2]; done)
                     | (have y2 : ¬ (¬ x < 1 ∧ ¬ (4 : Int32) < x) := fun q => q.1 zh37
                        rw [if_neg zh7, if_neg y1, if_neg y2]; done)))
    · refine r_aload_n 0 rfl dX10_codingTrouble_22 ?_
      refine r_getr dX10_codingTrouble_23 fl_X10_35 rfl (hM _ _ _ rfl) ?_
      refine r_geti dX10_codingTrouble_26 fl_X10_127 rfl ?_
      refine r_iconst (v := 5) rfl dX10_codingTrouble_29 ?_
      refine r_icmpge (tgt := 35) dX10_codingTrouble_30 (by decide) (fun zh30 => ?_) (fun zh30 => ?_)
      · refine r_iload_n 1 rfl dX10_codingTrouble_35 ?_
        refine r_iconst (v := 1) rfl dX10_codingTrouble_36 ?_
        refine r_icmplt (tgt := 49) dX10_codingTrouble_37 (by decide) (fun zh37 => ?_) (fun zh37 => ?_)
        · refine r_iconst (v := 2) rfl dX10_codingTrouble_49 ?_
          exact r_iret hG dX10_codingTrouble_50 (by
              refine ⟨?_, rfl, rfl, rfl⟩
              unfold cdTr
              first
                | (rw [if_pos zh7]; done)
                | (have y1 : 0 < MI 43 6 ∧ MI 43 6 < 5 := ⟨Int32.not_le.mp zh19, Int32.not_le.mp zh30⟩
                   rw [if_neg zh7, if_pos y1]; done)
                | (have y1 : ¬ (0 < MI 43 6 ∧ MI 43 6 < 5) := fun q => absurd q.2 (Int32.not_lt.mpr zh30)
                   first
                     | (have y2 : ¬ x < 1 ∧ ¬ (4 : Int32) < x := ⟨zh37, zh42⟩
                        rw [if_neg zh7, if_neg y1, if_pos y2]; done)
                     | (have y2 : ¬ (¬ x < 1 ∧ ¬ (4 : Int32) < x) := fun q => q.2 zh42
                        rw [if_neg zh7, if_neg y1, if_neg y2]; done)
                     | (have y2 : ¬ (¬ x < 1 ∧ ¬ (4 : Int32) < x) := fun q => q.1 zh37
                        rw [if_neg zh7, if_neg y1, if_neg y2]; done))
                | (have y1 : ¬ (0 < MI 43 6 ∧ MI 43 6 < 5) := fun q => absurd q.1 (Int32.not_lt.mpr zh19)
                   first
                     | (have y2 : ¬ x < 1 ∧ ¬ (4 : Int32) < x := ⟨zh37, zh42⟩
                        rw [if_neg zh7, if_neg y1, if_pos y2]; done)
                     | (have y2 : ¬ (¬ x < 1 ∧ ¬ (4 : Int32) < x) := fun q => q.2 zh42
                        rw [if_neg zh7, if_neg y1, if_neg y2]; done)
                     | (have y2 : ¬ (¬ x < 1 ∧ ¬ (4 : Int32) < x) := fun q => q.1 zh37
                        rw [if_neg zh7, if_neg y1, if_neg y2]; done)))
        · refine r_iload_n 1 rfl dX10_codingTrouble_40 ?_
          refine r_iconst (v := 4) rfl dX10_codingTrouble_41 ?_
          refine r_icmpgt (tgt := 49) dX10_codingTrouble_42 (by decide) (fun zh42 => ?_) (fun zh42 => ?_)
          · refine r_iconst (v := 2) rfl dX10_codingTrouble_49 ?_
            exact r_iret hG dX10_codingTrouble_50 (by
                refine ⟨?_, rfl, rfl, rfl⟩
                unfold cdTr
                first
                  | (rw [if_pos zh7]; done)
                  | (have y1 : 0 < MI 43 6 ∧ MI 43 6 < 5 := ⟨Int32.not_le.mp zh19, Int32.not_le.mp zh30⟩
                     rw [if_neg zh7, if_pos y1]; done)
                  | (have y1 : ¬ (0 < MI 43 6 ∧ MI 43 6 < 5) := fun q => absurd q.2 (Int32.not_lt.mpr zh30)
                     first
                       | (have y2 : ¬ x < 1 ∧ ¬ (4 : Int32) < x := ⟨zh37, zh42⟩
                          rw [if_neg zh7, if_neg y1, if_pos y2]; done)
                       | (have y2 : ¬ (¬ x < 1 ∧ ¬ (4 : Int32) < x) := fun q => q.2 zh42
                          rw [if_neg zh7, if_neg y1, if_neg y2]; done)
                       | (have y2 : ¬ (¬ x < 1 ∧ ¬ (4 : Int32) < x) := fun q => q.1 zh37
                          rw [if_neg zh7, if_neg y1, if_neg y2]; done))
                  | (have y1 : ¬ (0 < MI 43 6 ∧ MI 43 6 < 5) := fun q => absurd q.1 (Int32.not_lt.mpr zh19)
                     first
                       | (have y2 : ¬ x < 1 ∧ ¬ (4 : Int32) < x := ⟨zh37, zh42⟩
                          rw [if_neg zh7, if_neg y1, if_pos y2]; done)
                       | (have y2 : ¬ (¬ x < 1 ∧ ¬ (4 : Int32) < x) := fun q => q.2 zh42
                          rw [if_neg zh7, if_neg y1, if_neg y2]; done)
                       | (have y2 : ¬ (¬ x < 1 ∧ ¬ (4 : Int32) < x) := fun q => q.1 zh37
                          rw [if_neg zh7, if_neg y1, if_neg y2]; done)))
          · refine r_iconst (v := 0) rfl dX10_codingTrouble_45 ?_
            refine r_goto (tgt := 50) dX10_codingTrouble_46 (by decide) ?_
            exact r_iret hG dX10_codingTrouble_50 (by
                refine ⟨?_, rfl, rfl, rfl⟩
                unfold cdTr
                first
                  | (rw [if_pos zh7]; done)
                  | (have y1 : 0 < MI 43 6 ∧ MI 43 6 < 5 := ⟨Int32.not_le.mp zh19, Int32.not_le.mp zh30⟩
                     rw [if_neg zh7, if_pos y1]; done)
                  | (have y1 : ¬ (0 < MI 43 6 ∧ MI 43 6 < 5) := fun q => absurd q.2 (Int32.not_lt.mpr zh30)
                     first
                       | (have y2 : ¬ x < 1 ∧ ¬ (4 : Int32) < x := ⟨zh37, zh42⟩
                          rw [if_neg zh7, if_neg y1, if_pos y2]; done)
                       | (have y2 : ¬ (¬ x < 1 ∧ ¬ (4 : Int32) < x) := fun q => q.2 zh42
                          rw [if_neg zh7, if_neg y1, if_neg y2]; done)
                       | (have y2 : ¬ (¬ x < 1 ∧ ¬ (4 : Int32) < x) := fun q => q.1 zh37
                          rw [if_neg zh7, if_neg y1, if_neg y2]; done))
                  | (have y1 : ¬ (0 < MI 43 6 ∧ MI 43 6 < 5) := fun q => absurd q.1 (Int32.not_lt.mpr zh19)
                     first
                       | (have y2 : ¬ x < 1 ∧ ¬ (4 : Int32) < x := ⟨zh37, zh42⟩
                          rw [if_neg zh7, if_neg y1, if_pos y2]; done)
                       | (have y2 : ¬ (¬ x < 1 ∧ ¬ (4 : Int32) < x) := fun q => q.2 zh42
                          rw [if_neg zh7, if_neg y1, if_neg y2]; done)
                       | (have y2 : ¬ (¬ x < 1 ∧ ¬ (4 : Int32) < x) := fun q => q.1 zh37
                          rw [if_neg zh7, if_neg y1, if_neg y2]; done)))
      · refine r_iconst (v := 5) rfl dX10_codingTrouble_33 ?_
        exact r_iret hG dX10_codingTrouble_34 (by
            refine ⟨?_, rfl, rfl, rfl⟩
            unfold cdTr
            first
              | (rw [if_pos zh7]; done)
              | (have y1 : 0 < MI 43 6 ∧ MI 43 6 < 5 := ⟨Int32.not_le.mp zh19, Int32.not_le.mp zh30⟩
                 rw [if_neg zh7, if_pos y1]; done)
              | (have y1 : ¬ (0 < MI 43 6 ∧ MI 43 6 < 5) := fun q => absurd q.2 (Int32.not_lt.mpr zh30)
                 first
                   | (have y2 : ¬ x < 1 ∧ ¬ (4 : Int32) < x := ⟨zh37, zh42⟩
                      rw [if_neg zh7, if_neg y1, if_pos y2]; done)
                   | (have y2 : ¬ (¬ x < 1 ∧ ¬ (4 : Int32) < x) := fun q => q.2 zh42
                      rw [if_neg zh7, if_neg y1, if_neg y2]; done)
                   | (have y2 : ¬ (¬ x < 1 ∧ ¬ (4 : Int32) < x) := fun q => q.1 zh37
                      rw [if_neg zh7, if_neg y1, if_neg y2]; done))
              | (have y1 : ¬ (0 < MI 43 6 ∧ MI 43 6 < 5) := fun q => absurd q.1 (Int32.not_lt.mpr zh19)
                 first
                   | (have y2 : ¬ x < 1 ∧ ¬ (4 : Int32) < x := ⟨zh37, zh42⟩
                      rw [if_neg zh7, if_neg y1, if_pos y2]; done)
                   | (have y2 : ¬ (¬ x < 1 ∧ ¬ (4 : Int32) < x) := fun q => q.2 zh42
                      rw [if_neg zh7, if_neg y1, if_neg y2]; done)
                   | (have y2 : ¬ (¬ x < 1 ∧ ¬ (4 : Int32) < x) := fun q => q.1 zh37
                      rw [if_neg zh7, if_neg y1, if_neg y2]; done)))
  · refine r_iconst (v := 1) rfl dX10_codingTrouble_10 ?_
    exact r_iret hG dX10_codingTrouble_11 (by
        refine ⟨?_, rfl, rfl, rfl⟩
        unfold cdTr
        first
          | (rw [if_pos zh7]; done)
          | (have y1 : 0 < MI 43 6 ∧ MI 43 6 < 5 := ⟨Int32.not_le.mp zh19, Int32.not_le.mp zh30⟩
             rw [if_neg zh7, if_pos y1]; done)
          | (have y1 : ¬ (0 < MI 43 6 ∧ MI 43 6 < 5) := fun q => absurd q.2 (Int32.not_lt.mpr zh30)
             first
               | (have y2 : ¬ x < 1 ∧ ¬ (4 : Int32) < x := ⟨zh37, zh42⟩
                  rw [if_neg zh7, if_neg y1, if_pos y2]; done)
               | (have y2 : ¬ (¬ x < 1 ∧ ¬ (4 : Int32) < x) := fun q => q.2 zh42
                  rw [if_neg zh7, if_neg y1, if_neg y2]; done)
               | (have y2 : ¬ (¬ x < 1 ∧ ¬ (4 : Int32) < x) := fun q => q.1 zh37
                  rw [if_neg zh7, if_neg y1, if_neg y2]; done))
          | (have y1 : ¬ (0 < MI 43 6 ∧ MI 43 6 < 5) := fun q => absurd q.1 (Int32.not_lt.mpr zh19)
             first
               | (have y2 : ¬ x < 1 ∧ ¬ (4 : Int32) < x := ⟨zh37, zh42⟩
                  rw [if_neg zh7, if_neg y1, if_pos y2]; done)
               | (have y2 : ¬ (¬ x < 1 ∧ ¬ (4 : Int32) < x) := fun q => q.2 zh42
                  rw [if_neg zh7, if_neg y1, if_neg y2]; done)
               | (have y2 : ¬ (¬ x < 1 ∧ ¬ (4 : Int32) < x) := fun q => q.1 zh37
                  rw [if_neg zh7, if_neg y1, if_neg y2]; done)))
theorem cdTr_0 {x : Int32} (h : cdTr MI x = 0) : ∃ N, 1 ≤ N ∧ N ≤ 4 ∧ x = nI N := by
  unfold cdTr at h
  split at h
  · exact absurd h (by decide)
  · split at h
    · exact absurd h (by decide)
    · split at h
      · rename_i z
        have h0 : ¬ x < 0 := fun q => z.1 (Int32.lt_trans q (by decide))
        obtain ⟨j, hj, e⟩ := nI_of2 (x := x) (M := 4) (n := 4) (by decide) h0 (Int32.not_lt.mp z.2)
        refine ⟨j, ?_, hj, e⟩
        rcases Nat.lt_or_ge 0 j with q | q
        · exact q
        · obtain rfl : j = 0 := by omega
          exact absurd (show x < 1 by rw [e]; decide) z.1
      · exact absurd h (by decide)
/-- the memory behind a search -/
def scM (MI : Mi) (ML : Nat → Nat → Int64) (A S N : Nat) : Mi := if MI 60 5 = nI N then MI else u2 (laK MI (srK MI ML A S N)) 60 5 (nI N)
def scL (MI : Mi) (ML : Nat → Nat → Int64) (A S N : Nat) : Nat → Nat → Int64 := if MI 60 5 = nI N then ML else laV ML (srK MI ML A S N)
set_option maxRecDepth 100000 in
theorem c_X10_codings_no (hM : x_Lay MR) {x : Int32} (h : ¬ cdTr MI x = 0) : Cf X yX10_codings cX10_codings 3 (some .int) 2 [.ref 0, .int x] n SH MI ML MR (some (.int (-1))) (ansM MI (cdTr MI x)) ML MR := by
  refine Ct_of (by decide) (Nat.le_of_ble_eq_true rfl) (fun G hG => ?_)
  refine r_aload_n 0 rfl dX10_codings_0 ?_
  refine r_iload_n 1 rfl dX10_codings_1 ?_
  refine r_Vf [.int _] dX10_codings_2 lk_X10_290 mb_X10_codingTrouble in_X10_codingTrouble se_X10_codingTrouble rfl (c_X10_codingTrouble hM) rfl rfl rfl (Nat.le_of_ble_eq_true rfl) (rfl) ?_
  refine r_istore_n (ls2 := [(2, .int (cdTr MI x)), (0, .ref 0), (1, .int x)]) dX10_codings_5 (by decide) rfl ?_
  refine r_iload_n 0 rfl dX10_codings_6 ?_
  refine r_ifeq (tgt := 16) dX10_codings_7 (by decide) (fun zh7 => ?_) (fun zh7 => ?_)
  · exact absurd zh7 (h)
  refine r_aload_n 1 rfl dX10_codings_10 ?_
  refine r_iload_n 0 rfl dX10_codings_11 ?_
  refine r_Vf [.int _] dX10_codings_12 lk_X10_86 mb_X10_refuse in_X10_refuse se_X10_refuse rfl (c_X10_refuse) rfl rfl rfl (Nat.le_of_ble_eq_true rfl) (rfl) ?_
  exact r_iret hG dX10_codings_15 (⟨rfl, rfl, rfl, rfl⟩)
set_option maxRecDepth 100000 in
theorem c_X10_codings (hM : x_Lay MR) (hSt : x_St X) {A S N : Nat} (hA : A ≤ 8) (hAr : MI 1 6 = nI A) (hS : S ≤ 6) (hSr : MI 1 1 = nI S) (hN : N ≤ 4) (h : cdTr MI (nI N) = 0) : Cf X yX10_codings cX10_codings 3 (some .int) 13 [.ref 0, .int (nI N)] n SH MI ML MR (some (.int (scM MI ML A S N 60 4))) (ansM (scM MI ML A S N) 0) (scL MI ML A S N) MR := by
  refine Ct_of (by decide) (Nat.le_of_ble_eq_true rfl) (fun G hG => ?_)
  refine r_aload_n 0 rfl dX10_codings_0 ?_
  refine r_iload_n 1 rfl dX10_codings_1 ?_
  refine r_Vf [.int _] dX10_codings_2 lk_X10_290 mb_X10_codingTrouble in_X10_codingTrouble se_X10_codingTrouble rfl (c_X10_codingTrouble hM) rfl rfl rfl (Nat.le_of_ble_eq_true rfl) (rfl) ?_
  refine r_istore_n (ls2 := [(2, .int (cdTr MI (nI N))), (0, .ref 0), (1, .int (nI N))]) dX10_codings_5 (by decide) rfl ?_
  refine r_iload_n 0 rfl dX10_codings_6 ?_
  refine r_ifeq (tgt := 16) dX10_codings_7 (by decide) (fun zh7 => ?_) (fun zh7 => ?_)
  rotate_left
  · exact absurd zh7 (fun q => q h)
  refine r_aload_n 1 rfl dX10_codings_16 ?_
  refine r_getr dX10_codings_17 fl_X10_57 rfl (hM _ _ _ rfl) ?_
  refine r_iload_n 2 rfl dX10_codings_20 ?_
  refine r_Vn [.int _] dX10_codings_21 lk_X10_293 mb_X1_search in_X1_search se_X1_search rfl (c_X1_search hM hSt hA hAr hS hSr hN) rfl rfl rfl (Nat.le_of_ble_eq_true rfl) (rfl) ?_
  refine r_mem (MI2 := scM MI ML A S N) (ML2 := scL MI ML A S N) rfl rfl rfl ?_
  refine r_aload_n 1 rfl dX10_codings_24 ?_
  refine r_aload_n 1 rfl dX10_codings_25 ?_
  refine r_getr dX10_codings_26 fl_X10_57 rfl (hM _ _ _ rfl) ?_
  refine r_geti dX10_codings_29 fl_X10_296 rfl ?_
  refine r_Vf [.int _] dX10_codings_32 lk_X10_115 mb_X10_told in_X10_told se_X10_told rfl (c_X10_told) rfl rfl rfl (Nat.le_of_ble_eq_true rfl) (rfl) ?_
  exact r_iret hG dX10_codings_35 (⟨rfl, rfl, rfl, rfl⟩)
def cdNo (MI : Mi) (x y : Int32) : Int32 := if inR y (MI 1 1) = true then cdTr MI x else 1
set_option maxRecDepth 100000 in
theorem c_X10_coding_no (hM : x_Lay MR) {x y : Int32} (h : ¬ (inR y (MI 1 1) = true ∧ cdTr MI x = 0)) : Cf X yX10_coding cX10_coding 4 (some .int) 2 [.ref 0, .int x, .int y] n SH MI ML MR (some (.int (-1))) (ansM MI (cdNo MI x y)) ML MR := by
  refine Ct_of (by decide) (Nat.le_of_ble_eq_true rfl) (fun G hG => ?_)
  refine r_iload_n 2 rfl dX10_coding_0 ?_
  refine r_iflt (tgt := 15) dX10_coding_1 (by decide) (fun zh1 => ?_) (fun zh1 => ?_)
  · refine r_aload_n 0 rfl dX10_coding_15 ?_
    refine r_iconst (v := 1) rfl dX10_coding_16 ?_
    refine r_Vf [.int _] dX10_coding_17 lk_X10_86 mb_X10_refuse in_X10_refuse se_X10_refuse rfl (c_X10_refuse) rfl rfl rfl (Nat.le_of_ble_eq_true rfl) (rfl) ?_
    exact r_iret hG dX10_coding_20 (by
        unfold cdNo
        first
          | (have y1 : inR y (MI 1 1) = true := inR_t.mpr ⟨zh1, Int32.not_le.mpr zh12⟩
             rw [if_pos y1]; exact ⟨rfl, rfl, rfl, rfl⟩)
          | (have y1 : ¬ inR y (MI 1 1) = true := fun q => (inR_t.mp q).2 (Int32.not_lt.mp zh12)
             rw [if_neg y1]; exact ⟨rfl, rfl, rfl, rfl⟩)
          | (have y1 : ¬ inR y (MI 1 1) = true := fun q => (inR_t.mp q).1 zh1
             rw [if_neg y1]; exact ⟨rfl, rfl, rfl, rfl⟩))
  · refine r_iload_n 2 rfl dX10_coding_4 ?_
    refine r_aload_n 0 rfl dX10_coding_5 ?_
    refine r_getr dX10_coding_6 fl_X10_10 rfl (hM _ _ _ rfl) ?_
    refine r_geti dX10_coding_9 fl_X10_133 rfl ?_
    refine r_icmplt (tgt := 21) dX10_coding_12 (by decide) (fun zh12 => ?_) (fun zh12 => ?_)
    · refine r_aload_n 0 rfl dX10_coding_21 ?_
      refine r_iload_n 1 rfl dX10_coding_22 ?_
      refine r_Vf [.int _] dX10_coding_23 lk_X10_290 mb_X10_codingTrouble in_X10_codingTrouble se_X10_codingTrouble rfl (c_X10_codingTrouble hM) rfl rfl rfl (Nat.le_of_ble_eq_true rfl) (rfl) ?_
      refine r_istore_n (ls2 := [(3, .int (cdTr MI x)), (0, .ref 0), (1, .int x), (2, .int y)]) dX10_coding_26 (by decide) rfl ?_
      refine r_iload_n 0 rfl dX10_coding_27 ?_
      refine r_ifeq (tgt := 37) dX10_coding_28 (by decide) (fun zh28 => ?_) (fun zh28 => ?_)
      · exact absurd ⟨inR_t.mpr ⟨zh1, Int32.not_le.mpr zh12⟩, zh28⟩ h
      · refine r_aload_n 1 rfl dX10_coding_31 ?_
        refine r_iload_n 0 rfl dX10_coding_32 ?_
        refine r_Vf [.int _] dX10_coding_33 lk_X10_86 mb_X10_refuse in_X10_refuse se_X10_refuse rfl (c_X10_refuse) rfl rfl rfl (Nat.le_of_ble_eq_true rfl) (rfl) ?_
        exact r_iret hG dX10_coding_36 (by
            unfold cdNo
            first
              | (have y1 : inR y (MI 1 1) = true := inR_t.mpr ⟨zh1, Int32.not_le.mpr zh12⟩
                 rw [if_pos y1]; exact ⟨rfl, rfl, rfl, rfl⟩)
              | (have y1 : ¬ inR y (MI 1 1) = true := fun q => (inR_t.mp q).2 (Int32.not_lt.mp zh12)
                 rw [if_neg y1]; exact ⟨rfl, rfl, rfl, rfl⟩)
              | (have y1 : ¬ inR y (MI 1 1) = true := fun q => (inR_t.mp q).1 zh1
                 rw [if_neg y1]; exact ⟨rfl, rfl, rfl, rfl⟩))
    · refine r_aload_n 0 rfl dX10_coding_15 ?_
      refine r_iconst (v := 1) rfl dX10_coding_16 ?_
      refine r_Vf [.int _] dX10_coding_17 lk_X10_86 mb_X10_refuse in_X10_refuse se_X10_refuse rfl (c_X10_refuse) rfl rfl rfl (Nat.le_of_ble_eq_true rfl) (rfl) ?_
      exact r_iret hG dX10_coding_20 (by
          unfold cdNo
          first
            | (have y1 : inR y (MI 1 1) = true := inR_t.mpr ⟨zh1, Int32.not_le.mpr zh12⟩
               rw [if_pos y1]; exact ⟨rfl, rfl, rfl, rfl⟩)
            | (have y1 : ¬ inR y (MI 1 1) = true := fun q => (inR_t.mp q).2 (Int32.not_lt.mp zh12)
               rw [if_neg y1]; exact ⟨rfl, rfl, rfl, rfl⟩)
            | (have y1 : ¬ inR y (MI 1 1) = true := fun q => (inR_t.mp q).1 zh1
               rw [if_neg y1]; exact ⟨rfl, rfl, rfl, rfl⟩))
set_option maxRecDepth 100000 in
theorem c_X10_coding (hM : x_Lay MR) (hSt : x_St X) {A S N s : Nat} (hA : A ≤ 8) (hAr : MI 1 6 = nI A) (hS : S ≤ 6) (hSr : MI 1 1 = nI S) (hN : N ≤ 4) (hs : s < S) (h : cdTr MI (nI N) = 0) : Cf X yX10_coding cX10_coding 4 (some .int) 13 [.ref 0, .int (nI N), .int (nI s)] n SH MI ML MR (some (.int (if scM MI ML A S N 60 4 ≤ 0 then -1 else scM MI ML A S N 63 s))) (ansM (scM MI ML A S N) (if scM MI ML A S N 60 4 ≤ 0 then 1 else 0)) (scL MI ML A S N) MR := by
  refine Ct_of (by decide) (Nat.le_of_ble_eq_true rfl) (fun G hG => ?_)
  refine r_iload_n 2 rfl dX10_coding_0 ?_
  refine r_iflt (tgt := 15) dX10_coding_1 (by decide) (fun zh1 => ?_) (fun zh1 => ?_)
  · exact absurd zh1 (nI_pos (by omega))
  refine r_iload_n 2 rfl dX10_coding_4 ?_
  refine r_aload_n 0 rfl dX10_coding_5 ?_
  refine r_getr dX10_coding_6 fl_X10_10 rfl (hM _ _ _ rfl) ?_
  refine r_geti dX10_coding_9 fl_X10_133 rfl ?_
  refine r_icmplt (tgt := 21) dX10_coding_12 (by decide) (fun zh12 => ?_) (fun zh12 => ?_)
  rotate_left
  · exact absurd zh12 (fun q => q (by rw [hSr]; exact nI_lt hs (by omega)))
  refine r_aload_n 0 rfl dX10_coding_21 ?_
  refine r_iload_n 1 rfl dX10_coding_22 ?_
  refine r_Vf [.int _] dX10_coding_23 lk_X10_290 mb_X10_codingTrouble in_X10_codingTrouble se_X10_codingTrouble rfl (c_X10_codingTrouble hM) rfl rfl rfl (Nat.le_of_ble_eq_true rfl) (rfl) ?_
  refine r_istore_n (ls2 := [(3, .int (cdTr MI (nI N))), (0, .ref 0), (1, .int (nI N)), (2, .int (nI s))]) dX10_coding_26 (by decide) rfl ?_
  refine r_iload_n 0 rfl dX10_coding_27 ?_
  refine r_ifeq (tgt := 37) dX10_coding_28 (by decide) (fun zh28 => ?_) (fun zh28 => ?_)
  rotate_left
  · exact absurd zh28 (fun q => q h)
  refine r_aload_n 1 rfl dX10_coding_37 ?_
  refine r_getr dX10_coding_38 fl_X10_57 rfl (hM _ _ _ rfl) ?_
  refine r_iload_n 2 rfl dX10_coding_41 ?_
  refine r_Vn [.int _] dX10_coding_42 lk_X10_293 mb_X1_search in_X1_search se_X1_search rfl (c_X1_search hM hSt hA hAr hS hSr hN) rfl rfl rfl (Nat.le_of_ble_eq_true rfl) (rfl) ?_
  refine r_mem (MI2 := scM MI ML A S N) (ML2 := scL MI ML A S N) rfl rfl rfl ?_
  refine r_aload_n 1 rfl dX10_coding_45 ?_
  refine r_getr dX10_coding_46 fl_X10_57 rfl (hM _ _ _ rfl) ?_
  refine r_geti dX10_coding_49 fl_X10_296 rfl ?_
  refine r_ifle (tgt := 73) dX10_coding_52 (by decide) (fun zh52 => ?_) (fun zh52 => ?_)
  · refine r_aload_n 1 rfl dX10_coding_73 ?_
    refine r_iconst (v := 1) rfl dX10_coding_74 ?_
    refine r_Vf [.int _] dX10_coding_75 lk_X10_86 mb_X10_refuse in_X10_refuse se_X10_refuse rfl (c_X10_refuse) rfl rfl rfl (Nat.le_of_ble_eq_true rfl) (rfl) ?_
    exact r_iret hG dX10_coding_78 (by
        first
          | (rw [if_pos zh52, if_pos zh52]; exact ⟨rfl, rfl, rfl, rfl⟩)
          | (rw [if_neg zh52, if_neg zh52, pickV_nI _ (show s < 6 by omega) (by decide)]; exact ⟨rfl, rfl, rfl, rfl⟩))
  · refine r_aload_n 1 rfl dX10_coding_55 ?_
    refine r_aload_n 1 rfl dX10_coding_56 ?_
    refine r_getr dX10_coding_57 fl_X10_57 rfl (hM _ _ _ rfl) ?_
    refine r_getr dX10_coding_60 fl_X10_299 rfl (hM _ _ _ rfl) ?_
    refine r_iload_n 3 rfl dX10_coding_63 ?_
    refine r_Sf [.ref _, .int _] dX10_coding_64 lk_X10_140 mb_X10_pick sc_X10_pick rfl (c_X10_pick (N := 6) rfl (by decide)) rfl (Nat.le_of_ble_eq_true rfl) (rfl) ?_
    refine r_Vf [.int _] dX10_coding_67 lk_X10_115 mb_X10_told in_X10_told se_X10_told rfl (c_X10_told) rfl rfl rfl (Nat.le_of_ble_eq_true rfl) (rfl) ?_
    refine r_goto (tgt := 78) dX10_coding_70 (by decide) ?_
    exact r_iret hG dX10_coding_78 (by
        first
          | (rw [if_pos zh52, if_pos zh52]; exact ⟨rfl, rfl, rfl, rfl⟩)
          | (rw [if_neg zh52, if_neg zh52, pickV_nI _ (show s < 6 by omega) (by decide)]; exact ⟨rfl, rfl, rfl, rfl⟩))
end class4

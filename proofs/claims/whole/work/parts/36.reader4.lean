/-! Reader: lines -/
abbrev Mi : Type := Nat → Nat → Int32
def cS (D : Mi) : Nat := (D 16 1).toNatClampNeg
def cA (D : Mi) : Nat := (D 16 6).toNatClampNeg
def cG (D : Mi) : Nat := (D 16 8).toNatClampNeg
/-- the draft's numbers -/
def dfI (D : Mi) : Prop := (cS D ≤ 6 ∧ D 16 1 = nI (cS D)) ∧ (cA D ≤ 8 ∧ D 16 6 = nI (cA D)) ∧ (cG D ≤ 16 ∧ D 16 8 = nI (cG D)) ∧ (D 16 0 = 0 ∨ D 16 0 = 1)
def rsP (L : Nat) (s : Ps) (D : Mi) : Ps × Mi :=
  if cS D < 6 then
    (if (stepP (D 15) L s).2.2.1 = 2 then
      (if whlP (D 15) L (stepP (D 15) L s).2.2.2.1 ((stepP (D 15) L s).2.2.2.2.1 - (stepP (D 15) L s).2.2.2.1) < 4 then
        (stepP (D 15) L (stepP (D 15) L s), u2 (u2 D 17 (cS D) (whlP (D 15) L (stepP (D 15) L s).2.2.2.1 ((stepP (D 15) L s).2.2.2.2.1 - (stepP (D 15) L s).2.2.2.1))) 16 1 (nI (cS D + 1)))
       else (failP (stepP (D 15) L s) 4, D))
     else (failP (stepP (D 15) L s) 1, D))
  else (failP s 5, D)
section reader4
variable {X : xG} {n : Nat} {MI D : Nat → Nat → Int32} {ML : Nat → Nat → Int64} {MR : Nat → Nat → Option Nat} {s : Ps} {L : Nat}
set_option maxRecDepth 100000 in
theorem c_X6_readState (hM : x_Lay MR) (hS2 : x_S2 X) (hL : L ≤ 600) (hl : D 14 5 = nI L) (ok : okP L s) (hD : dfI D) : Cf X yX6_readState cX6_readState 2 none 6 [.ref 14] n SH (laP D s) ML MR none (laP (rsP L s D).2 (rsP L s D).1) ML MR := by
  obtain ⟨⟨h1, h2⟩, -⟩ := hD
  obtain ⟨s1, hs1⟩ : ∃ s1, s1 = stepP (D 15) L s := ⟨_, rfl⟩
  have ok1 : okP L s1 := by rw [hs1]; exact okP_step ok
  obtain ⟨w, hw⟩ : ∃ w, w = whlP (D 15) L s1.2.2.2.1 (s1.2.2.2.2.1 - s1.2.2.2.1) := ⟨_, rfl⟩
  have hdef : rsP L s D = if cS D < 6 then (if s1.2.2.1 = 2 then (if w < 4 then (stepP (D 15) L s1, u2 (u2 D 17 (cS D) w) 16 1 (nI (cS D + 1))) else (failP s1 4, D)) else (failP s1 1, D)) else (failP s 5, D) := by rw [hw, hs1]; rfl
  rw [hdef]
  obtain ⟨S, hS⟩ : ∃ S, S = cS D := ⟨_, rfl⟩
  rw [← hS] at h1 h2 ⊢
  have hadd : S < 6 → u2 (placeM (laP D s1) 17 6 (laP D s1 16 1) w) 16 1 (placeM (laP D s1) 17 6 (laP D s1 16 1) w 16 1 + 1) = laP (u2 (u2 D 17 S w) 16 1 (nI (S + 1))) s1 := fun h => by
    rw [laP_b s1 (show (16 : Nat) ≠ 14 by decide), h2]
    unfold placeM
    rw [if_pos ⟨nI_pos (by omega), fun q => absurd (geL (k := 6) (by decide) (by omega) q) (by omega)⟩, nI_clamp (by omega), laP_D s1 (by decide), laP_b s1 (show (16 : Nat) ≠ 14 by decide), u2_row _ _ (show (16 : Nat) ≠ 17 by decide), h2, show nI S + 1 = nI (S + 1) from x_inc S, laP_D s1 (by decide)]
  have hl2 : ∀ D2, D2 = u2 (u2 D 17 S w) 16 1 (nI (S + 1)) → D2 14 5 = nI L ∧ D2 15 = D 15 := fun D2 h => by
    rw [h]
    exact ⟨by rw [u2_row _ _ (by decide), u2_row _ _ (by decide)]; exact hl, by rw [u2_row _ _ (by decide), u2_row _ _ (by decide)]⟩
  obtain ⟨D2, hD2⟩ : ∃ D2, D2 = u2 (u2 D 17 S w) 16 1 (nI (S + 1)) := ⟨_, rfl⟩
  obtain ⟨hl3, h15⟩ := hl2 D2 hD2
  rw [← hD2] at hadd ⊢
  refine Ct_of (by decide) (Nat.le_of_ble_eq_true rfl) (fun G hG => ?_)
  refine r_aload_n 0 rfl dX6_readState_0 ?_
  refine r_getr dX6_readState_1 fl_X6_18 rfl (hM _ _ _ rfl) ?_
  refine r_geti dX6_readState_4 fl_X6_108 rfl ?_
  refine r_bipush (v := 6) rfl dX6_readState_7 ?_
  refine r_icmplt (tgt := 18) dX6_readState_9 (by decide) (fun zh9 => ?_) (fun zh9 => ?_)
  · rw [laP_b s (show (16 : Nat) ≠ 14 by decide), h2] at zh9
    have h6 : S < 6 := (nI_ltI (by omega) (by decide)).mp zh9
    rw [if_pos h6] at hG
    refine r_aload_n 0 rfl dX6_readState_18 ?_
    refine r_Vn [] dX6_readState_19 lk_X6_41 mb_X6_step in_X6_step se_X6_step rfl (c_X6_step hM hS2 hL hl ok) rfl rfl rfl (Nat.le_of_ble_eq_true rfl) (rfl) ?_
    rw [← hs1]
    refine r_aload_n 0 rfl dX6_readState_22 ?_
    refine r_geti dX6_readState_23 fl_X6_76 rfl ?_
    refine r_iconst (v := 2) rfl dX6_readState_26 ?_
    refine r_icmpeq (tgt := 36) dX6_readState_27 (by decide) (fun zh27 => ?_) (fun zh27 => ?_)
    · rw [laP_k] at zh27
      rw [if_pos zh27] at hG
      refine r_aload_n 0 rfl dX6_readState_36 ?_
      refine r_Vf [] dX6_readState_37 lk_X6_111 mb_X6_wholeValue in_X6_wholeValue se_X6_wholeValue rfl (c_X6_wholeValue hM hL hl ok1) rfl rfl rfl (Nat.le_of_ble_eq_true rfl) (rfl) ?_
      rw [← hw]
      refine r_istore_n (ls2 := [(1, .int w), (0, .ref 14)]) dX6_readState_40 (by decide) rfl ?_
      refine r_iload_n 0 rfl dX6_readState_41 ?_
      refine r_iconst (v := 4) rfl dX6_readState_42 ?_
      refine r_icmplt (tgt := 52) dX6_readState_43 (by decide) (fun zh43 => ?_) (fun zh43 => ?_)
      · rw [if_pos zh43] at hG
        refine r_aload_n 1 rfl dX6_readState_52 ?_
        refine r_getr dX6_readState_53 fl_X6_18 rfl (hM _ _ _ rfl) ?_
        refine r_iload_n 0 rfl dX6_readState_56 ?_
        refine r_Vn [.int _] dX6_readState_57 lk_X6_114 mb_X5_addState in_X5_addState se_X5_addState rfl (c_X5_addState_16 hM) rfl rfl rfl (Nat.le_of_ble_eq_true rfl) (rfl) ?_
        rw [hadd h6]
        refine r_aload_n 1 rfl dX6_readState_60 ?_
        refine r_Vn [] dX6_readState_61 lk_X6_41 mb_X6_step in_X6_step se_X6_step rfl (c_X6_step hM hS2 hL hl3 ok1) rfl rfl rfl (Nat.le_of_ble_eq_true rfl) (rfl) ?_
        rw [h15]
        exact r_vret hG dX6_readState_64 (⟨rfl, rfl, rfl, rfl⟩)
      · rw [if_neg zh43] at hG
        refine r_aload_n 1 rfl dX6_readState_46 ?_
        refine r_iconst (v := 4) rfl dX6_readState_47 ?_
        refine r_Vn [.int _] dX6_readState_48 lk_X6_68 mb_X6_fail in_X6_fail se_X6_fail rfl (c_X6_fail) rfl rfl rfl (Nat.le_of_ble_eq_true rfl) (rfl) ?_
        exact r_vret hG dX6_readState_51 (⟨rfl, rfl, rfl, rfl⟩)
    · rw [laP_k] at zh27
      rw [if_neg zh27] at hG
      refine r_aload_n 0 rfl dX6_readState_30 ?_
      refine r_iconst (v := 1) rfl dX6_readState_31 ?_
      refine r_Vn [.int _] dX6_readState_32 lk_X6_68 mb_X6_fail in_X6_fail se_X6_fail rfl (c_X6_fail) rfl rfl rfl (Nat.le_of_ble_eq_true rfl) (rfl) ?_
      exact r_vret hG dX6_readState_35 (⟨rfl, rfl, rfl, rfl⟩)
  · rw [laP_b s (show (16 : Nat) ≠ 14 by decide), h2] at zh9
    have hn6 : ¬ S < 6 := fun z => zh9 (nI_lt z (by decide))
    rw [if_neg hn6] at hG
    refine r_aload_n 0 rfl dX6_readState_12 ?_
    refine r_iconst (v := 5) rfl dX6_readState_13 ?_
    refine r_Vn [.int _] dX6_readState_14 lk_X6_68 mb_X6_fail in_X6_fail se_X6_fail rfl (c_X6_fail) rfl rfl rfl (Nat.le_of_ble_eq_true rfl) (rfl) ?_
    exact r_vret hG dX6_readState_17 (⟨rfl, rfl, rfl, rfl⟩)
def rbP (L : Nat) (s : Ps) (D : Mi) : Ps × Mi :=
  if D 16 0 = 0 then
    let r1 := rdN (D 15) L (D 16 1) (stepP (D 15) L s)
    let r2 := rdL (D 15) L 4 r1.2
    let r4 := rdL (D 15) L 5 (rdS (D 15) L r2.2)
    (r4.2, u2 (u2 (u2 (u2 D 16 0 1) 16 3 r1.1) 16 4 r2.1) 16 5 r4.1)
  else (failP s 3, D)
set_option maxRecDepth 100000 in
theorem c_X6_readBegin (hM : x_Lay MR) (hS2 : x_S2 X) (hL : L ≤ 600) (hl : D 14 5 = nI L) (ok : okP L s) : Cf X yX6_readBegin cX6_readBegin 1 none 8 [.ref 14] n SH (laP D s) ML MR none (laP (rbP L s D).2 (rbP L s D).1) ML MR := by
  obtain ⟨r1, hr1⟩ : ∃ r1, r1 = rdN (D 15) L (D 16 1) (stepP (D 15) L s) := ⟨_, rfl⟩
  have ok1 : okP L r1.2 := by rw [hr1]; exact okP_N (okP_step ok)
  obtain ⟨r2, hr2⟩ : ∃ r2, r2 = rdL (D 15) L 4 r1.2 := ⟨_, rfl⟩
  have ok2 : okP L r2.2 := by rw [hr2]; exact okP_L ok1
  have ok3 : okP L (rdS (D 15) L r2.2) := okP_S ok2
  obtain ⟨r4, hr4⟩ : ∃ r4, r4 = rdL (D 15) L 5 (rdS (D 15) L r2.2) := ⟨_, rfl⟩
  have hdef : rbP L s D = if D 16 0 = 0 then (r4.2, u2 (u2 (u2 (u2 D 16 0 1) 16 3 r1.1) 16 4 r2.1) 16 5 r4.1) else (failP s 3, D) := by rw [hr4, hr2, hr1]; rfl
  rw [hdef]
  obtain ⟨D1, hD1⟩ : ∃ D1, D1 = u2 D 16 0 1 := ⟨_, rfl⟩
  obtain ⟨D2, hD2⟩ : ∃ D2, D2 = u2 D1 16 3 r1.1 := ⟨_, rfl⟩
  obtain ⟨D3, hD3⟩ : ∃ D3, D3 = u2 D2 16 4 r2.1 := ⟨_, rfl⟩
  rw [← hD1, ← hD2, ← hD3]
  have e1 : D1 14 5 = nI L ∧ D1 15 = D 15 ∧ D1 16 1 = D 16 1 := by rw [hD1]; exact ⟨by rw [u2_row _ _ (by decide)]; exact hl, u2_row _ _ (by decide), u2_ne _ _ (by decide)⟩
  have e2 : D2 14 5 = nI L ∧ D2 15 = D 15 := by rw [hD2]; exact ⟨by rw [u2_row _ _ (by decide)]; exact e1.1, by rw [u2_row _ _ (by decide)]; exact e1.2.1⟩
  have e3 : D3 14 5 = nI L ∧ D3 15 = D 15 := by rw [hD3]; exact ⟨by rw [u2_row _ _ (by decide)]; exact e2.1, by rw [u2_row _ _ (by decide)]; exact e2.2⟩
  refine Ct_of (by decide) (Nat.le_of_ble_eq_true rfl) (fun G hG => ?_)
  refine r_aload_n 0 rfl dX6_readBegin_0 ?_
  refine r_getr dX6_readBegin_1 fl_X6_18 rfl (hM _ _ _ rfl) ?_
  refine r_geti dX6_readBegin_4 fl_X6_79 rfl ?_
  refine r_ifeq (tgt := 16) dX6_readBegin_7 (by decide) (fun zh7 => ?_) (fun zh7 => ?_)
  · rw [laP_b s (show (16 : Nat) ≠ 14 by decide)] at zh7
    rw [if_pos zh7] at hG
    refine r_aload_n 0 rfl dX6_readBegin_16 ?_
    refine r_getr dX6_readBegin_17 fl_X6_18 rfl (hM _ _ _ rfl) ?_
    refine r_iconst (v := 1) rfl dX6_readBegin_20 ?_
    refine r_puti dX6_readBegin_21 fl_X6_79 rfl rfl rfl ?_
    rw [laP_D s (by decide), ← hD1]
    refine r_aload_n 0 rfl dX6_readBegin_24 ?_
    refine r_Vn [] dX6_readBegin_25 lk_X6_41 mb_X6_step in_X6_step se_X6_step rfl (c_X6_step hM hS2 hL e1.1 ok) rfl rfl rfl (Nat.le_of_ble_eq_true rfl) (rfl) ?_
    rw [e1.2.1]
    refine r_aload_n 0 rfl dX6_readBegin_28 ?_
    refine r_getr dX6_readBegin_29 fl_X6_18 rfl (hM _ _ _ rfl) ?_
    refine r_aload_n 0 rfl dX6_readBegin_32 ?_
    refine r_Vf [] dX6_readBegin_33 lk_X6_117 mb_X6_readStateNumber in_X6_readStateNumber se_X6_readStateNumber rfl (c_X6_readStateNumber hM hS2 hL e1.1 (okP_step ok)) rfl rfl rfl (Nat.le_of_ble_eq_true rfl) (rfl) ?_
    rw [e1.2.1, e1.2.2, ← hr1]
    refine r_puti dX6_readBegin_36 fl_X6_120 rfl rfl rfl ?_
    rw [laP_D _ (by decide), ← hD2]
    refine r_aload_n 0 rfl dX6_readBegin_39 ?_
    refine r_getr dX6_readBegin_40 fl_X6_18 rfl (hM _ _ _ rfl) ?_
    refine r_aload_n 0 rfl dX6_readBegin_43 ?_
    refine r_ldcS (k0 := 1005) sr_X6_122 (by decide) dX6_readBegin_44 ?_
    refine r_Vf [.ref _] dX6_readBegin_46 lk_X6_124 mb_X6_readLetters in_X6_readLetters se_X6_readLetters rfl (c_X6_readLetters hM hS2 hL e2.1 ok1 (i := 4) (by decide)) rfl rfl rfl (Nat.le_of_ble_eq_true rfl) (rfl) ?_
    rw [e2.2, ← hr2]
    refine r_puti dX6_readBegin_49 fl_X6_128 rfl rfl rfl ?_
    rw [laP_D _ (by decide), ← hD3]
    refine r_aload_n 0 rfl dX6_readBegin_52 ?_
    refine r_Vn [] dX6_readBegin_53 lk_X6_131 mb_X6_readSlash in_X6_readSlash se_X6_readSlash rfl (c_X6_readSlash hM hS2 hL e3.1 ok2) rfl rfl rfl (Nat.le_of_ble_eq_true rfl) (rfl) ?_
    rw [e3.2]
    refine r_aload_n 0 rfl dX6_readBegin_56 ?_
    refine r_getr dX6_readBegin_57 fl_X6_18 rfl (hM _ _ _ rfl) ?_
    refine r_aload_n 0 rfl dX6_readBegin_60 ?_
    refine r_ldcS (k0 := 1006) sr_X6_134 (by decide) dX6_readBegin_61 ?_
    refine r_Vf [.ref _] dX6_readBegin_63 lk_X6_124 mb_X6_readLetters in_X6_readLetters se_X6_readLetters rfl (c_X6_readLetters hM hS2 hL e3.1 ok3 (i := 5) (by decide)) rfl rfl rfl (Nat.le_of_ble_eq_true rfl) (rfl) ?_
    rw [e3.2, ← hr4]
    refine r_puti dX6_readBegin_66 fl_X6_136 rfl rfl rfl ?_
    rw [laP_D _ (by decide)]
    exact r_vret hG dX6_readBegin_69 (⟨rfl, rfl, rfl, rfl⟩)
  · rw [laP_b s (show (16 : Nat) ≠ 14 by decide)] at zh7
    rw [if_neg zh7] at hG
    refine r_aload_n 0 rfl dX6_readBegin_10 ?_
    refine r_iconst (v := 3) rfl dX6_readBegin_11 ?_
    refine r_Vn [.int _] dX6_readBegin_12 lk_X6_68 mb_X6_fail in_X6_fail se_X6_fail rfl (c_X6_fail) rfl rfl rfl (Nat.le_of_ble_eq_true rfl) (rfl) ?_
    exact r_vret hG dX6_readBegin_15 (⟨rfl, rfl, rfl, rfl⟩)
def raP (L : Nat) (s : Ps) (D : Mi) : Ps × Mi :=
  if cA D < 8 then
    let r1 := rdN (D 15) L (D 16 1) (stepP (D 15) L s)
    let r2 := rdN (D 15) L (D 16 1) r1.2
    let s3 := rdC (D 15) L 4 r2.2
    let s4 := if s3.2.2.2.2.2.1 ||| s3.2.2.2.2.2.2 = 0 then failP s3 1 else s3
    let s6 := rdC (D 15) L 5 (rdS (D 15) L s4)
    (s6, u2 (u2 (u2 (u2 (u2 (u2 (u2 D 16 6 (nI (cA D + 1))) (19 + cA D) 0 r1.1) (19 + cA D) 1 r2.1) (19 + cA D) 2 s4.2.2.2.2.2.1) (19 + cA D) 3 s4.2.2.2.2.2.2) (19 + cA D) 4 s6.2.2.2.2.2.1) (19 + cA D) 5 s6.2.2.2.2.2.2)
  else (failP s 5, D)
theorem laP_o {A : Nat} (s : Ps) (hA : laP D s 16 6 = nI A) : openM (laP D s) 16 A A = laP (u2 D 16 6 (nI (A + 1))) s := by
  rw [← laP_D s (by decide)]
  unfold openM
  have : opnRow (laP D s) 16 A A 0 = laP D s := by
    funext b j
    unfold opnRow
    rw [if_neg (by omega)]
  rw [this]
theorem laP_q {A j : Nat} (s : Ps) (hA : A < 8) (hj : j < 6) (v : Int32) : setPartM (laP D s) 16 (nI A) (nI j) v = laP (u2 D (19 + A) j v) s := by
  rw [setPartM_nI hA hj, ← laP_D s (by omega)]
set_option maxRecDepth 100000 in
theorem c_X6_readArc (hM : x_Lay MR) (hS2 : x_S2 X) (hL : L ≤ 600) (hl : D 14 5 = nI L) (ok : okP L s) (hD : dfI D) : Cf X yX6_readArc cX6_readArc 2 none 8 [.ref 14] n SH (laP D s) ML MR none (laP (raP L s D).2 (raP L s D).1) ML MR := by
  obtain ⟨-, ⟨h1, h2⟩, -⟩ := hD
  obtain ⟨r1, hr1⟩ : ∃ r1, r1 = rdN (D 15) L (D 16 1) (stepP (D 15) L s) := ⟨_, rfl⟩
  have ok1 : okP L r1.2 := by rw [hr1]; exact okP_N (okP_step ok)
  obtain ⟨r2, hr2⟩ : ∃ r2, r2 = rdN (D 15) L (D 16 1) r1.2 := ⟨_, rfl⟩
  have ok2 : okP L r2.2 := by rw [hr2]; exact okP_N ok1
  obtain ⟨s3, hs3⟩ : ∃ s3, s3 = rdC (D 15) L 4 r2.2 := ⟨_, rfl⟩
  have ok3 : okP L s3 := by rw [hs3]; exact okP_C ok2
  obtain ⟨s4, hs4⟩ : ∃ s4, s4 = if s3.2.2.2.2.2.1 ||| s3.2.2.2.2.2.2 = 0 then failP s3 1 else s3 := ⟨_, rfl⟩
  have ok4 : okP L s4 := by
    rw [hs4]
    split
    · exact okP_fail ok3
    · exact ok3
  have ok5 : okP L (rdS (D 15) L s4) := okP_S ok4
  obtain ⟨s6, hs6⟩ : ∃ s6, s6 = rdC (D 15) L 5 (rdS (D 15) L s4) := ⟨_, rfl⟩
  obtain ⟨A, hA⟩ : ∃ A, A = cA D := ⟨_, rfl⟩
  have hdef : raP L s D = if A < 8 then (s6, u2 (u2 (u2 (u2 (u2 (u2 (u2 D 16 6 (nI (A + 1))) (19 + A) 0 r1.1) (19 + A) 1 r2.1) (19 + A) 2 s4.2.2.2.2.2.1) (19 + A) 3 s4.2.2.2.2.2.2) (19 + A) 4 s6.2.2.2.2.2.1) (19 + A) 5 s6.2.2.2.2.2.2) else (failP s 5, D) := by rw [hs6, hs4, hs3, hr2, hr1, hA]; rfl
  rw [hdef]
  rw [← hA] at h1 h2
  obtain ⟨D1, hD1⟩ : ∃ D1, D1 = u2 D 16 6 (nI (A + 1)) := ⟨_, rfl⟩
  obtain ⟨D2, hD2⟩ : ∃ D2, D2 = u2 D1 (19 + A) 0 r1.1 := ⟨_, rfl⟩
  obtain ⟨D3, hD3⟩ : ∃ D3, D3 = u2 D2 (19 + A) 1 r2.1 := ⟨_, rfl⟩
  obtain ⟨D5, hD5⟩ : ∃ D5, D5 = u2 (u2 D3 (19 + A) 2 s4.2.2.2.2.2.1) (19 + A) 3 s4.2.2.2.2.2.2 := ⟨_, rfl⟩
  rw [← hD1, ← hD2, ← hD3, ← hD5]
  have e1 : D1 14 5 = nI L ∧ D1 15 = D 15 ∧ D1 16 1 = D 16 1 := by rw [hD1]; exact ⟨by rw [u2_row _ _ (by decide)]; exact hl, u2_row _ _ (by decide), u2_ne _ _ (by decide)⟩
  have e2 : D2 14 5 = nI L ∧ D2 15 = D 15 ∧ D2 16 1 = D 16 1 := by rw [hD2]; exact ⟨by rw [u2_row _ _ (by omega)]; exact e1.1, by rw [u2_row _ _ (by omega)]; exact e1.2.1, by rw [u2_row _ _ (by omega)]; exact e1.2.2⟩
  have e3 : D3 14 5 = nI L ∧ D3 15 = D 15 := by rw [hD3]; exact ⟨by rw [u2_row _ _ (by omega)]; exact e2.1, by rw [u2_row _ _ (by omega)]; exact e2.2.1⟩
  have e5 : D5 14 5 = nI L ∧ D5 15 = D 15 := by rw [hD5]; exact ⟨by rw [u2_row _ _ (by omega), u2_row _ _ (by omega)]; exact e3.1, by rw [u2_row _ _ (by omega), u2_row _ _ (by omega)]; exact e3.2⟩
  refine Ct_of (by decide) (Nat.le_of_ble_eq_true rfl) (fun G hG => ?_)
  by_cases hA8 : A < 8
  · rw [if_pos hA8] at hG
    have j87 : RW X G RX6 cX6_readArc 2 (x_rm 8 0 0) n SH (laP D3 s4) ML MR 0 0 87 [(1, .int (nI A)), (0, .ref 14)] [] := by
      refine r_aload_n 1 rfl dX6_readArc_87 ?_
      refine r_getr dX6_readArc_88 fl_X6_18 rfl (hM _ _ _ rfl) ?_
      refine r_iload_n 0 rfl dX6_readArc_91 ?_
      refine r_iconst (v := 2) rfl dX6_readArc_92 ?_
      refine r_aload_n 1 rfl dX6_readArc_93 ?_
      refine r_geti dX6_readArc_94 fl_X6_153 rfl ?_
      refine r_Vn [.int _, .int _, .int _] dX6_readArc_97 lk_X6_145 mb_X5_setPart in_X5_setPart se_X5_setPart rfl (c_X5_setPart_16 hM) rfl rfl rfl (Nat.le_of_ble_eq_true rfl) (rfl) ?_
      rw [laP_u, show setPartM (laP D3 s4) 16 (nI A) 2 s4.2.2.2.2.2.1 = _ from laP_q (j := 2) s4 hA8 (by decide) _]
      refine r_aload_n 1 rfl dX6_readArc_100 ?_
      refine r_getr dX6_readArc_101 fl_X6_18 rfl (hM _ _ _ rfl) ?_
      refine r_iload_n 0 rfl dX6_readArc_104 ?_
      refine r_iconst (v := 3) rfl dX6_readArc_105 ?_
      refine r_aload_n 1 rfl dX6_readArc_106 ?_
      refine r_geti dX6_readArc_107 fl_X6_156 rfl ?_
      refine r_Vn [.int _, .int _, .int _] dX6_readArc_110 lk_X6_145 mb_X5_setPart in_X5_setPart se_X5_setPart rfl (c_X5_setPart_16 hM) rfl rfl rfl (Nat.le_of_ble_eq_true rfl) (rfl) ?_
      rw [laP_d, show setPartM (laP (u2 D3 (19 + A) 2 s4.2.2.2.2.2.1) s4) 16 (nI A) 3 s4.2.2.2.2.2.2 = _ from laP_q (j := 3) s4 hA8 (by decide) _, ← hD5]
      refine r_aload_n 1 rfl dX6_readArc_113 ?_
      refine r_Vn [] dX6_readArc_114 lk_X6_131 mb_X6_readSlash in_X6_readSlash se_X6_readSlash rfl (c_X6_readSlash hM hS2 hL e5.1 ok4) rfl rfl rfl (Nat.le_of_ble_eq_true rfl) (rfl) ?_
      rw [e5.2]
      refine r_aload_n 1 rfl dX6_readArc_117 ?_
      refine r_ldcS (k0 := 1006) sr_X6_134 (by decide) dX6_readArc_118 ?_
      refine r_Vn [.ref _] dX6_readArc_120 lk_X6_149 mb_X6_readChanges in_X6_readChanges se_X6_readChanges rfl (c_X6_readChanges hM hS2 hL e5.1 ok5 (i := 5) (by decide)) rfl rfl rfl (Nat.le_of_ble_eq_true rfl) (rfl) ?_
      rw [e5.2, ← hs6]
      refine r_aload_n 1 rfl dX6_readArc_123 ?_
      refine r_getr dX6_readArc_124 fl_X6_18 rfl (hM _ _ _ rfl) ?_
      refine r_iload_n 0 rfl dX6_readArc_127 ?_
      refine r_iconst (v := 4) rfl dX6_readArc_128 ?_
      refine r_aload_n 1 rfl dX6_readArc_129 ?_
      refine r_geti dX6_readArc_130 fl_X6_153 rfl ?_
      refine r_Vn [.int _, .int _, .int _] dX6_readArc_133 lk_X6_145 mb_X5_setPart in_X5_setPart se_X5_setPart rfl (c_X5_setPart_16 hM) rfl rfl rfl (Nat.le_of_ble_eq_true rfl) (rfl) ?_
      rw [laP_u, show setPartM (laP D5 s6) 16 (nI A) 4 s6.2.2.2.2.2.1 = _ from laP_q (j := 4) s6 hA8 (by decide) _]
      refine r_aload_n 1 rfl dX6_readArc_136 ?_
      refine r_getr dX6_readArc_137 fl_X6_18 rfl (hM _ _ _ rfl) ?_
      refine r_iload_n 0 rfl dX6_readArc_140 ?_
      refine r_iconst (v := 5) rfl dX6_readArc_141 ?_
      refine r_aload_n 1 rfl dX6_readArc_142 ?_
      refine r_geti dX6_readArc_143 fl_X6_156 rfl ?_
      refine r_Vn [.int _, .int _, .int _] dX6_readArc_146 lk_X6_145 mb_X5_setPart in_X5_setPart se_X5_setPart rfl (c_X5_setPart_16 hM) rfl rfl rfl (Nat.le_of_ble_eq_true rfl) (rfl) ?_
      rw [laP_d, show setPartM (laP (u2 D5 (19 + A) 4 s6.2.2.2.2.2.1) s6) 16 (nI A) 5 s6.2.2.2.2.2.2 = _ from laP_q (j := 5) s6 hA8 (by decide) _]
      exact r_vret hG dX6_readArc_149 (⟨rfl, rfl, rfl, rfl⟩)
    refine r_aload_n 0 rfl dX6_readArc_0 ?_
    refine r_getr dX6_readArc_1 fl_X6_18 rfl (hM _ _ _ rfl) ?_
    refine r_geti dX6_readArc_4 fl_X6_139 rfl ?_
    refine r_bipush (v := 8) rfl dX6_readArc_7 ?_
    refine r_icmplt (tgt := 18) dX6_readArc_9 (by decide) (fun zh9 => ?_) (fun zh9 => ?_)
    rotate_left
    · exact absurd zh9 (fun q => q (by rw [laP_b s (show (16 : Nat) ≠ 14 by decide), h2]; exact nI_lt hA8 (by decide)))
    refine r_aload_n 0 rfl dX6_readArc_18 ?_
    refine r_Vn [] dX6_readArc_19 lk_X6_41 mb_X6_step in_X6_step se_X6_step rfl (c_X6_step hM hS2 hL hl ok) rfl rfl rfl (Nat.le_of_ble_eq_true rfl) (rfl) ?_
    refine r_aload_n 0 rfl dX6_readArc_22 ?_
    refine r_getr dX6_readArc_23 fl_X6_18 rfl (hM _ _ _ rfl) ?_
    refine r_geti dX6_readArc_26 fl_X6_139 rfl ?_
    rw [laP_b _ (show (16 : Nat) ≠ 14 by decide), h2]
    refine r_istore_n (ls2 := [(1, .int (nI A)), (0, .ref 14)]) dX6_readArc_29 (by decide) rfl ?_
    refine r_aload_n 1 rfl dX6_readArc_30 ?_
    refine r_getr dX6_readArc_31 fl_X6_18 rfl (hM _ _ _ rfl) ?_
    refine r_iload_n 0 rfl dX6_readArc_34 ?_
    refine r_Vn [.int _] dX6_readArc_35 lk_X6_142 mb_X5_openArc in_X5_openArc se_X5_openArc rfl (c_X5_openArc_16 (r := A) (A := A) hM (by omega) (Nat.le_refl A) (by rw [laP_b _ (show (16 : Nat) ≠ 14 by decide)]; exact h2)) rfl rfl rfl (Nat.le_of_ble_eq_true rfl) (rfl) ?_
    rw [laP_o _ (by rw [laP_b _ (show (16 : Nat) ≠ 14 by decide)]; exact h2), ← hD1]
    refine r_aload_n 1 rfl dX6_readArc_38 ?_
    refine r_getr dX6_readArc_39 fl_X6_18 rfl (hM _ _ _ rfl) ?_
    refine r_iload_n 0 rfl dX6_readArc_42 ?_
    refine r_iconst (v := 0) rfl dX6_readArc_43 ?_
    refine r_aload_n 1 rfl dX6_readArc_44 ?_
    refine r_Vf [] dX6_readArc_45 lk_X6_117 mb_X6_readStateNumber in_X6_readStateNumber se_X6_readStateNumber rfl (c_X6_readStateNumber hM hS2 hL e1.1 (okP_step ok)) rfl rfl rfl (Nat.le_of_ble_eq_true rfl) (rfl) ?_
    rw [e1.2.1, e1.2.2, ← hr1]
    refine r_Vn [.int _, .int _, .int _] dX6_readArc_48 lk_X6_145 mb_X5_setPart in_X5_setPart se_X5_setPart rfl (c_X5_setPart_16 hM) rfl rfl rfl (Nat.le_of_ble_eq_true rfl) (rfl) ?_
    rw [show setPartM (laP D1 r1.2) 16 (nI A) 0 r1.1 = _ from laP_q (j := 0) r1.2 hA8 (by decide) _, ← hD2]
    refine r_aload_n 1 rfl dX6_readArc_51 ?_
    refine r_getr dX6_readArc_52 fl_X6_18 rfl (hM _ _ _ rfl) ?_
    refine r_iload_n 0 rfl dX6_readArc_55 ?_
    refine r_iconst (v := 1) rfl dX6_readArc_56 ?_
    refine r_aload_n 1 rfl dX6_readArc_57 ?_
    refine r_Vf [] dX6_readArc_58 lk_X6_117 mb_X6_readStateNumber in_X6_readStateNumber se_X6_readStateNumber rfl (c_X6_readStateNumber hM hS2 hL e2.1 ok1) rfl rfl rfl (Nat.le_of_ble_eq_true rfl) (rfl) ?_
    rw [e2.2.1, e2.2.2, ← hr2]
    refine r_Vn [.int _, .int _, .int _] dX6_readArc_61 lk_X6_145 mb_X5_setPart in_X5_setPart se_X5_setPart rfl (c_X5_setPart_16 hM) rfl rfl rfl (Nat.le_of_ble_eq_true rfl) (rfl) ?_
    rw [show setPartM (laP D2 r2.2) 16 (nI A) 1 r2.1 = _ from laP_q (j := 1) r2.2 hA8 (by decide) _, ← hD3]
    refine r_aload_n 1 rfl dX6_readArc_64 ?_
    refine r_ldcS (k0 := 1005) sr_X6_122 (by decide) dX6_readArc_65 ?_
    refine r_Vn [.ref _] dX6_readArc_67 lk_X6_149 mb_X6_readChanges in_X6_readChanges se_X6_readChanges rfl (c_X6_readChanges hM hS2 hL e3.1 ok2 (i := 4) (by decide)) rfl rfl rfl (Nat.le_of_ble_eq_true rfl) (rfl) ?_
    rw [e3.2, ← hs3]
    refine r_aload_n 1 rfl dX6_readArc_70 ?_
    refine r_geti dX6_readArc_71 fl_X6_153 rfl ?_
    refine r_aload_n 1 rfl dX6_readArc_74 ?_
    refine r_geti dX6_readArc_75 fl_X6_156 rfl ?_
    refine r_ior dX6_readArc_78 ?_
    refine r_ifne (tgt := 87) dX6_readArc_79 (by decide) (fun zh79 => ?_) (fun zh79 => ?_)
    · rw [laP_u, laP_d] at zh79
      first
        | (rw [if_pos zh79] at hs4; rw [← hs4]; exact j87)
        | (rw [if_neg zh79] at hs4; rw [← hs4]; exact j87)
    · refine r_aload_n 1 rfl dX6_readArc_82 ?_
      refine r_iconst (v := 1) rfl dX6_readArc_83 ?_
      refine r_Vn [.int _] dX6_readArc_84 lk_X6_68 mb_X6_fail in_X6_fail se_X6_fail rfl (c_X6_fail) rfl rfl rfl (Nat.le_of_ble_eq_true rfl) (rfl) ?_
      rw [laP_u, laP_d] at zh79
      first
        | (rw [if_pos zh79] at hs4; rw [← hs4]; exact j87)
        | (rw [if_neg zh79] at hs4; rw [← hs4]; exact j87)
  · rw [if_neg hA8] at hG
    refine r_aload_n 0 rfl dX6_readArc_0 ?_
    refine r_getr dX6_readArc_1 fl_X6_18 rfl (hM _ _ _ rfl) ?_
    refine r_geti dX6_readArc_4 fl_X6_139 rfl ?_
    refine r_bipush (v := 8) rfl dX6_readArc_7 ?_
    refine r_icmplt (tgt := 18) dX6_readArc_9 (by decide) (fun zh9 => ?_) (fun zh9 => ?_)
    · exact absurd zh9 (fun q => hA8 (by rw [laP_b s (show (16 : Nat) ≠ 14 by decide), h2] at q; exact (nI_ltI (by omega) (by decide)).mp q))
    refine r_aload_n 0 rfl dX6_readArc_12 ?_
    refine r_iconst (v := 5) rfl dX6_readArc_13 ?_
    refine r_Vn [.int _] dX6_readArc_14 lk_X6_68 mb_X6_fail in_X6_fail se_X6_fail rfl (c_X6_fail) rfl rfl rfl (Nat.le_of_ble_eq_true rfl) (rfl) ?_
    exact r_vret hG dX6_readArc_17 (⟨rfl, rfl, rfl, rfl⟩)
def rgP (L : Nat) (s : Ps) (D : Mi) : Ps × Mi :=
  if cG D < 16 then
    let s1 := stepP (D 15) L s
    if letP (D 15) L s1 6 < 0 then (failP s1 1, D)
    else
      let s3 := rdT (D 15) L (stepP (D 15) L s1)
      (s3, u2 (u2 (u2 D 27 (cG D) (letP (D 15) L s1 6)) 28 (cG D) (numC s3.2.2.2.2.2.1 ((s3.2.2.2.2.2.1 ||| s3.2.2.2.2.2.2) ^^^ -1) 6)) 16 8 (nI (cG D + 1)))
  else (failP s 5, D)
set_option maxRecDepth 100000 in
theorem c_X6_readGate (hM : x_Lay MR) (hS2 : x_S2 X) (hL : L ≤ 600) (hl : D 14 5 = nI L) (ok : okP L s) (hD : dfI D) : Cf X yX6_readGate cX6_readGate 2 none 8 [.ref 14] n SH (laP D s) ML MR none (laP (rgP L s D).2 (rgP L s D).1) ML MR := by
  obtain ⟨-, -, ⟨h1, h2⟩, -⟩ := hD
  obtain ⟨s1, hs1⟩ : ∃ s1, s1 = stepP (D 15) L s := ⟨_, rfl⟩
  have ok1 : okP L s1 := by rw [hs1]; exact okP_step ok
  obtain ⟨f, hf⟩ : ∃ f, f = letP (D 15) L s1 6 := ⟨_, rfl⟩
  obtain ⟨s3, hs3⟩ : ∃ s3, s3 = rdT (D 15) L (stepP (D 15) L s1) := ⟨_, rfl⟩
  obtain ⟨g, hg⟩ : ∃ g, g = cG D := ⟨_, rfl⟩
  obtain ⟨y, hy⟩ : ∃ y, y = numC s3.2.2.2.2.2.1 ((s3.2.2.2.2.2.1 ||| s3.2.2.2.2.2.2) ^^^ -1) 6 := ⟨_, rfl⟩
  have hdef : rgP L s D = if g < 16 then (if f < 0 then (failP s1 1, D) else (s3, u2 (u2 (u2 D 27 g f) 28 g y) 16 8 (nI (g + 1)))) else (failP s 5, D) := by rw [hy, hs3, hf, hs1, hg]; rfl
  rw [hdef]
  rw [← hg] at h1 h2
  have hadd : g < 16 → u2 (placeM (placeM (laP D s3) 27 16 (laP D s3 16 8) f) 28 16 (placeM (laP D s3) 27 16 (laP D s3 16 8) f 16 8) y) 16 8 (placeM (placeM (laP D s3) 27 16 (laP D s3 16 8) f) 28 16 (placeM (laP D s3) 27 16 (laP D s3 16 8) f 16 8) y 16 8 + 1) = laP (u2 (u2 (u2 D 27 g f) 28 g y) 16 8 (nI (g + 1))) s3 := fun h => by
    have hpm : ∀ (V : Nat → Nat → Int32) (a : Nat) (v : Int32), placeM V a 16 (nI g) v = u2 V a g v := fun V a v => by unfold placeM; rw [if_pos ⟨nI_pos (by omega), fun q => absurd (geL (k := 16) (by decide) (by omega) q) (by omega)⟩, nI_clamp (by omega)]
    have e0 : laP D s3 16 8 = nI g := by rw [laP_b _ (show (16 : Nat) ≠ 14 by decide)]; exact h2
    rw [e0, hpm, u2_row _ _ (show 16 ≠ 27 by decide), e0, hpm, u2_row _ _ (show 16 ≠ 28 by decide), u2_row _ _ (show 16 ≠ 27 by decide), e0, show nI g + 1 = nI (g + 1) from x_inc g, laP_D s3 (by decide), laP_D s3 (by decide), laP_D s3 (by decide)]
  refine Ct_of (by decide) (Nat.le_of_ble_eq_true rfl) (fun G hG => ?_)
  refine r_aload_n 0 rfl dX6_readGate_0 ?_
  refine r_getr dX6_readGate_1 fl_X6_18 rfl (hM _ _ _ rfl) ?_
  refine r_geti dX6_readGate_4 fl_X6_159 rfl ?_
  refine r_bipush (v := 16) rfl dX6_readGate_7 ?_
  refine r_icmplt (tgt := 18) dX6_readGate_9 (by decide) (fun zh9 => ?_) (fun zh9 => ?_)
  · rw [laP_b s (show (16 : Nat) ≠ 14 by decide), h2] at zh9
    have h16 : g < 16 := (nI_ltI (by omega) (by decide)).mp zh9
    rw [if_pos h16] at hG
    refine r_aload_n 0 rfl dX6_readGate_18 ?_
    refine r_Vn [] dX6_readGate_19 lk_X6_41 mb_X6_step in_X6_step se_X6_step rfl (c_X6_step hM hS2 hL hl ok) rfl rfl rfl (Nat.le_of_ble_eq_true rfl) (rfl) ?_
    rw [← hs1]
    refine r_aload_n 0 rfl dX6_readGate_22 ?_
    refine r_ldcS (k0 := 1007) sr_X6_162 (by decide) dX6_readGate_23 ?_
    refine r_Vf [.ref _] dX6_readGate_25 lk_X6_164 mb_X6_letterAmong in_X6_letterAmong se_X6_letterAmong rfl (c_X6_letterAmong hM hS2 hL hl ok1 (i := 6) (by decide)) rfl rfl rfl (Nat.le_of_ble_eq_true rfl) (rfl) ?_
    rw [← hf]
    refine r_istore_n (ls2 := [(1, .int f), (0, .ref 14)]) dX6_readGate_28 (by decide) rfl ?_
    refine r_iload_n 0 rfl dX6_readGate_29 ?_
    refine r_ifge (tgt := 39) dX6_readGate_30 (by decide) (fun zh30 => ?_) (fun zh30 => ?_)
    · rw [if_neg (Int32.not_lt.mpr zh30)] at hG
      refine r_aload_n 1 rfl dX6_readGate_39 ?_
      refine r_Vn [] dX6_readGate_40 lk_X6_41 mb_X6_step in_X6_step se_X6_step rfl (c_X6_step hM hS2 hL hl ok1) rfl rfl rfl (Nat.le_of_ble_eq_true rfl) (rfl) ?_
      refine r_aload_n 1 rfl dX6_readGate_43 ?_
      refine r_Vn [] dX6_readGate_44 lk_X6_167 mb_X6_readLiterals in_X6_readLiterals se_X6_readLiterals rfl (c_X6_readLiterals hM hS2 hL hl (okP_step ok1)) rfl rfl rfl (Nat.le_of_ble_eq_true rfl) (rfl) ?_
      rw [← hs3]
      refine r_aload_n 1 rfl dX6_readGate_47 ?_
      refine r_getr dX6_readGate_48 fl_X6_18 rfl (hM _ _ _ rfl) ?_
      refine r_iload_n 0 rfl dX6_readGate_51 ?_
      refine r_aload_n 1 rfl dX6_readGate_52 ?_
      refine r_geti dX6_readGate_53 fl_X6_153 rfl ?_
      refine r_aload_n 1 rfl dX6_readGate_56 ?_
      refine r_geti dX6_readGate_57 fl_X6_153 rfl ?_
      refine r_aload_n 1 rfl dX6_readGate_60 ?_
      refine r_geti dX6_readGate_61 fl_X6_156 rfl ?_
      refine r_ior dX6_readGate_64 ?_
      refine r_iconst (v := (-1)) rfl dX6_readGate_65 ?_
      refine r_ixor dX6_readGate_66 ?_
      refine r_Sf [.int _, .int _] dX6_readGate_67 lk_X6_170 mb_X2_numberOf sc_X2_numberOf rfl (c_X2_numberOf) rfl (Nat.le_of_ble_eq_true rfl) (rfl) ?_
      rw [laP_u, laP_d, ← hy]
      refine r_Vn [.int _, .int _] dX6_readGate_70 lk_X6_176 mb_X5_addGate in_X5_addGate se_X5_addGate rfl (c_X5_addGate_16 hM) rfl rfl rfl (Nat.le_of_ble_eq_true rfl) (rfl) ?_
      rw [hadd h16]
      exact r_vret hG dX6_readGate_73 (⟨rfl, rfl, rfl, rfl⟩)
    · rw [if_pos (Int32.not_le.mp zh30)] at hG
      refine r_aload_n 1 rfl dX6_readGate_33 ?_
      refine r_iconst (v := 1) rfl dX6_readGate_34 ?_
      refine r_Vn [.int _] dX6_readGate_35 lk_X6_68 mb_X6_fail in_X6_fail se_X6_fail rfl (c_X6_fail) rfl rfl rfl (Nat.le_of_ble_eq_true rfl) (rfl) ?_
      exact r_vret hG dX6_readGate_38 (⟨rfl, rfl, rfl, rfl⟩)
  · rw [laP_b s (show (16 : Nat) ≠ 14 by decide), h2] at zh9
    rw [if_neg (fun z => zh9 (nI_lt z (by decide)))] at hG
    refine r_aload_n 0 rfl dX6_readGate_12 ?_
    refine r_iconst (v := 5) rfl dX6_readGate_13 ?_
    refine r_Vn [.int _] dX6_readGate_14 lk_X6_68 mb_X6_fail in_X6_fail se_X6_fail rfl (c_X6_fail) rfl rfl rfl (Nat.le_of_ble_eq_true rfl) (rfl) ?_
    exact r_vret hG dX6_readGate_17 (⟨rfl, rfl, rfl, rfl⟩)
end reader4

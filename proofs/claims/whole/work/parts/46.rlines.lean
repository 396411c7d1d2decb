/-! the reference's reader: lines, the whole text -/
/-- a line: the reader's state, the base memory (read 129, readStays 131) -/
def kS (D : Mi) : Nat := (D 131 0).toNatClampNeg
def kA (D : Mi) : Nat := (D 129 6).toNatClampNeg
def kG (D : Mi) : Nat := (D 129 55).toNatClampNeg
def dgI (D : Mi) : Prop := (kS D ≤ 6 ∧ D 131 0 = nI (kS D)) ∧ (kA D ≤ 8 ∧ D 129 6 = nI (kA D)) ∧ (kG D ≤ 16 ∧ D 129 55 = nI (kG D))
def qsP (L : Nat) (s : Rs) (D : Mi) : Rs × Mi :=
  let s1 := nxR (D 127) L (if kS D = 6 then wrR s 5 else s)
  let s2 := if s1.2.2.2.1 = 3 then (if s1.2.2.2.2.1 < 4 then s1 else wrR s1 4) else wrR s1 1
  if 0 < s2.1 then (s2, D) else (nxR (D 127) L s2, u2 (u2 D 129 (kS D) s2.2.2.2.2.1) 131 0 (nI (kS D + 1)))
def qbP (L : Nat) (s : Rs) (D : Mi) : Rs × Mi :=
  let s1 := nxR (D 127) L (if D 131 1 = -1 then s else wrR s 3)
  let r1 := saR (D 127) L (D 131 0) s1
  let r2 := rlR (D 127) L 97 4 (L + 1) (0, r1.2)
  let r4 := rlR (D 127) L 112 3 (L + 1) (0, slR (D 127) L r2.2)
  (r4.2, if 0 < r4.2.1 then D else u2 (u2 (u2 D 131 1 r1.1) 131 2 r2.1) 131 3 r4.1)
def qcI (s : Rs) : Rs := if ltR (zRS s) 97 4 = -1 then wrR (zRS s) 1 else zRS s
def qaP (L : Nat) (s : Rs) (D : Mi) : Rs × Mi :=
  let s1 := nxR (D 127) L (if kA D = 8 then wrR s 5 else s)
  let r1 := saR (D 127) L (D 131 0) s1
  let r2 := saR (D 127) L (D 131 0) r1.2
  let s3 := rcR (D 127) L 97 4 (L + 1) (qcI r2.2)
  let s4 := rcR (D 127) L 112 3 (L + 1) (zRS (slR (D 127) L s3))
  (s4, if 0 < s4.1 then D else u2 (u2 (u2 (u2 (u2 (u2 (u2 D 129 (7 + 6 * kA D) r1.1) 129 (7 + 6 * kA D + 1) r2.1) 129 (7 + 6 * kA D + 2) s3.2.2.2.2.2.2.1) 129 (7 + 6 * kA D + 3) s3.2.2.2.2.2.2.2) 129 (7 + 6 * kA D + 4) s4.2.2.2.2.2.2.1) 129 (7 + 6 * kA D + 5) s4.2.2.2.2.2.2.2) 129 6 (nI (kA D + 1)))
def fnR (s : Rs) : Int32 := if ltR s 112 3 = -1 then (if ltR s 115 2 = -1 then -1 else 3 + ltR s 115 2) else ltR s 112 3
def qgP (L : Nat) (s : Rs) (D : Mi) : Rs × Mi :=
  let s1 := nxR (D 127) L (if kG D = 16 then wrR s 5 else s)
  let s2 := nxR (D 127) L (if fnR s1 = -1 then wrR s1 1 else s1)
  let q := rgR (D 127) L (L + 1) (0, 0, s2)
  (q.2.2, if 0 < q.2.2.1 then D else u2 (u2 (u2 D 129 (56 + 2 * kG D) (fnR s1)) 129 (56 + 2 * kG D + 1) (numC q.2.1 (63 &&& (q.1 ^^^ -1)) 6)) 129 55 (nI (kG D + 1)))
theorem okR_rl {T : Nat → Int32} {L : Nat} {a m : Int32} : ∀ (k : Nat) (q : Int32 × Rs), okR L q.2 → okR L (rlR T L a m k q).2
  | 0, _, h => h
  | k + 1, q, h => by
    rw [rlR]
    split
    · exact h
    · refine okR_rl k _ (okR_n ?_)
      show okR L (if bitR q.1 (ltR q.2 a m) = true then wrR q.2 3 else q.2)
      split
      · exact okR_w (by decide) h
      · exact h
theorem okR_rc {T : Nat → Int32} {L : Nat} {a m : Int32} : ∀ (k : Nat) (s : Rs), okR L s → okR L (rcR T L a m k s)
  | 0, _, h => h
  | k + 1, s, h => by
    rw [rcR]
    split
    · exact h
    · exact okR_rc k _ (okR_c1 h)
theorem okR_rg {T : Nat → Int32} {L : Nat} : ∀ (k : Nat) (q : Int32 × Int32 × Rs), okR L q.2.2 → okR L (rgR T L k q).2.2
  | 0, _, h => h
  | k + 1, q, h => by
    rw [rgR]
    split
    · exact h
    · exact okR_rg k _ (okR_g1 h)
theorem okR_if {L : Nat} {s : Rs} {k : Int32} {c : Prop} [d : Decidable c] (hk : 0 < k) (h : okR L s) : okR L (if c then wrR s k else s) := by
  split
  · exact okR_w hk h
  · exact h
theorem okR_if2 {L : Nat} {s : Rs} {k : Int32} {c : Prop} [d : Decidable c] (hk : 0 < k) (h : okR L s) : okR L (if c then s else wrR s k) := by
  split
  · exact h
  · exact okR_w hk h
theorem okR_qc {L : Nat} {s : Rs} (h : okR L s) : okR L (qcI s) := okR_if (by decide) (okR_z h)
section rlines
variable {X : xG} {n : Nat} {D : Nat → Nat → Int32} {E : Nat → Nat → Int64} {MR : Nat → Nat → Option Nat} {s : Rs} {L : Nat}
theorem t_cell {D : Mi} {s : Rs} {b : Nat} (h : b ≠ 124) : laQ D s b = D b := laQ_b s h
set_option maxRecDepth 100000 in
theorem c_X11_readState (hM : x_Lay MR) (hL : L ≤ 600) (hl : D 124 7 = nI L) (ok : okR L s) (hD : dgI D) : Cf X yX11_readState cX11_readState 1 none 5 [.ref 124] n SH (laQ D s) (lwQ E s) MR none (laQ (qsP L s D).2 (qsP L s D).1) (lwQ E (qsP L s D).1) MR := by
  obtain ⟨⟨hS, hSr⟩, -, -⟩ := hD
  obtain ⟨S, hSe⟩ : ∃ S, S = kS D := ⟨_, rfl⟩
  rw [← hSe] at hS hSr
  have e9 : ∀ s : Rs, laQ D s 124 9 = s.2.2.2.1 := fun _ => rfl
  have e11 : ∀ s : Rs, laQ D s 124 11 = s.2.2.2.2.1 := fun _ => rfl
  have e12 : ∀ s : Rs, laQ D s 124 12 = s.1 := fun _ => rfl
  have e131 : ∀ s : Rs, laQ D s 131 = D 131 := fun s => laQ_b s (by decide)
  have c0 : (0 : Int32).toNatClampNeg = 0 := rfl
  obtain ⟨s1, hs1⟩ : ∃ s1, s1 = nxR (D 127) L (if S = 6 then wrR s 5 else s) := ⟨_, rfl⟩
  have ok1 : okR L s1 := by rw [hs1]; exact okR_n (okR_if (by decide) ok)
  obtain ⟨s2, hs2⟩ : ∃ s2, s2 = (if s1.2.2.2.1 = 3 then (if s1.2.2.2.2.1 < 4 then s1 else wrR s1 4) else wrR s1 1) := ⟨_, rfl⟩
  have ok2 : okR L s2 := by
    rw [hs2]
    split
    · exact okR_if2 (by decide) ok1
    · exact okR_w (by decide) ok1
  have hq : qsP L s D = if 0 < s2.1 then (s2, D) else (nxR (D 127) L s2, u2 (u2 D 129 S s2.2.2.2.2.1) 131 0 (nI (S + 1))) := by
    unfold qsP
    rw [← hSe, ← hs1]
    simp only
    rw [← hs2]
  refine Ct_of (by decide) (Nat.le_of_ble_eq_true rfl) (fun G hG => ?_)
  have j49 : RW X G RX11 cX11_readState 1 (x_rm 5 0 0) n SH (laQ D s2) (lwQ E s2) MR 0 0 49 [(0, .ref 124)] [] := by
    rcases Nat.lt_or_ge S 6 with hlt | hge
    · have hu : u2 (u2 (laQ D s2) 129 S s2.2.2.2.2.1) 131 0 (nI (S + 1)) = laQ (u2 (u2 D 129 S s2.2.2.2.2.1) 131 0 (nI (S + 1))) s2 := by rw [laQ_D s2 (by decide), laQ_D s2 (by decide)]
      refine r_aload_n 0 rfl dX11_readState_49 ?_
      refine r_geti dX11_readState_50 fl_X11_122 rfl ?_
      refine r_ifle (tgt := 57) dX11_readState_53 (by decide) (fun zh53 => ?_) (fun zh53 => ?_)
      · refine r_aload_n 0 rfl dX11_readState_57 ?_
        refine r_getr dX11_readState_58 fl_X11_34 rfl (hM _ _ _ rfl) ?_
        refine r_aload_n 0 rfl dX11_readState_61 ?_
        refine r_getr dX11_readState_62 fl_X11_40 rfl (hM _ _ _ rfl) ?_
        refine r_iconst (v := 0) rfl dX11_readState_65 ?_
        refine r_iald dX11_readState_66 rfl (vpk (k := 0) (by decide) (by decide) rfl) ?_
        refine r_aload_n 0 rfl dX11_readState_67 ?_
        refine r_geti dX11_readState_68 fl_X11_156 rfl ?_
        refine r_iast dX11_readState_71 rfl (by rw [c0, e131, hSr]; exact vp_in_nI (show S < 88 by omega) (by decide)) ?_
        refine r_aload_n 0 rfl dX11_readState_72 ?_
        refine r_getr dX11_readState_73 fl_X11_40 rfl (hM _ _ _ rfl) ?_
        refine r_iconst (v := 0) rfl dX11_readState_76 ?_
        refine r_dup2 rfl rfl dX11_readState_77 ?_
        refine r_iald dX11_readState_78 rfl (vpk (k := 0) (by decide) (by decide) rfl) ?_
        refine r_iconst (v := 1) rfl dX11_readState_79 ?_
        refine r_iadd dX11_readState_80 ?_
        refine r_iast dX11_readState_81 rfl (vpk (k := 0) (by decide) (by decide) rfl) ?_
        refine r_mem (MI2 := laQ (u2 (u2 D 129 S s2.2.2.2.2.1) 131 0 (nI (S + 1))) s2) (by rw [c0, e131, u2_row _ _ (show (131 : Nat) ≠ 129 by decide), e131, hSr, nI_clamp (by omega), nI_1]; exact hu) rfl rfl ?_
        refine r_aload_n 0 rfl dX11_readState_82 ?_
        refine r_Vn [] dX11_readState_83 lk_X11_173 mb_X11_next in_X11_next se_X11_next rfl (c_X11_next (D := u2 (u2 D 129 S s2.2.2.2.2.1) 131 0 (nI (S + 1))) hM hL hl ok2.1) rfl rfl rfl (Nat.le_of_ble_eq_true rfl) (rfl) ?_
        exact r_vret hG dX11_readState_86 (by rw [e12] at zh53; rw [hq]; first | (rw [if_pos (Int32.not_le.mp zh53)]; exact ⟨rfl, rfl, rfl, rfl⟩) | (rw [if_neg (Int32.not_lt.mpr zh53)]; exact ⟨rfl, rfl, rfl, rfl⟩))
      · exact r_vret hG dX11_readState_56 (by rw [e12] at zh53; rw [hq]; first | (rw [if_pos (Int32.not_le.mp zh53)]; exact ⟨rfl, rfl, rfl, rfl⟩) | (rw [if_neg (Int32.not_lt.mpr zh53)]; exact ⟨rfl, rfl, rfl, rfl⟩))
    · have h6 : S = 6 := by omega
      have hpos : 0 < s2.1 := by
        have hw : s1 = wrR s 5 := by rw [hs1, if_pos h6, nx_wr (by decide) ok]
        have : s2 = wrR s1 1 := by rw [hs2, if_neg (fun z => by rw [hw, wr_k] at z; exact absurd z (by decide))]
        rw [this]
        show 0 < (if s1.1 = 0 then (1 : Int32) else s1.1)
        split
        · decide
        · rename_i z
          exact Int32.lt_of_le_of_ne (Int32.not_lt.mp ok1.2.2.2.1) (Ne.symm z)
      refine r_aload_n 0 rfl dX11_readState_49 ?_
      refine r_geti dX11_readState_50 fl_X11_122 rfl ?_
      refine r_ifle (tgt := 57) dX11_readState_53 (by decide) (fun zh53 => ?_) (fun zh53 => ?_)
      · exact absurd zh53 (fun c => absurd hpos (Int32.not_lt.mpr c))
      exact r_vret hG dX11_readState_56 (by rw [hq, if_pos hpos]; exact ⟨rfl, rfl, rfl, rfl⟩)
  refine r_aload_n 0 rfl dX11_readState_0 ?_
  refine r_aload_n 0 rfl dX11_readState_1 ?_
  refine r_getr dX11_readState_2 fl_X11_40 rfl (hM _ _ _ rfl) ?_
  refine r_iconst (v := 0) rfl dX11_readState_5 ?_
  refine r_iald dX11_readState_6 rfl (vpk (k := 0) (by decide) (by decide) rfl) ?_
  refine r_bipush (v := 6) rfl dX11_readState_7 ?_
  refine r_icmpne (tgt := 16) dX11_readState_9 (by decide) (fun zh9 => ?_) (fun zh9 => ?_)
  · refine r_iconst (v := 0) rfl dX11_readState_16 ?_
    refine r_Vn [.int _] dX11_readState_17 lk_X11_210 mb_X11_begins in_X11_begins se_X11_begins rfl (c_X11_begins hM hL hl ok) rfl rfl rfl (Nat.le_of_ble_eq_true rfl) (rfl) ?_
    have hb : S = 6 ↔ nI S = 6 := (nI_eq (b := 6) (by omega) (by decide)).symm
    rw [c0, e131, hSr] at zh9
    refine r_mem (MI2 := laQ D s1) (ML2 := lwQ E s1) ?_ ?_ rfl ?_
    · rw [hs1]; first | rw [if_neg (fun c => zh9 (hb.mp c)), if_pos rfl] | rw [if_pos (hb.mpr zh9), if_neg (by decide)]
    · rw [hs1]; first | rw [if_neg (fun c => zh9 (hb.mp c)), if_pos rfl] | rw [if_pos (hb.mpr zh9), if_neg (by decide)]
    refine r_aload_n 0 rfl dX11_readState_20 ?_
    refine r_geti dX11_readState_21 fl_X11_135 rfl ?_
    refine r_iconst (v := 3) rfl dX11_readState_24 ?_
    refine r_icmpeq (tgt := 36) dX11_readState_25 (by decide) (fun zh25 => ?_) (fun zh25 => ?_)
    · refine r_aload_n 0 rfl dX11_readState_36 ?_
      refine r_geti dX11_readState_37 fl_X11_156 rfl ?_
      refine r_iconst (v := 4) rfl dX11_readState_40 ?_
      refine r_icmplt (tgt := 49) dX11_readState_41 (by decide) (fun zh41 => ?_) (fun zh41 => ?_)
      · rw [e9] at zh25
        first
          | (rw [if_neg zh25] at hs2; rw [hs2] at j49; exact j49)
          | (rw [e11] at zh41; rw [if_pos zh25, if_pos zh41] at hs2; rw [hs2] at j49; exact j49)
          | (rw [e11] at zh41; rw [if_pos zh25, if_neg zh41] at hs2; rw [hs2] at j49; exact j49)
      · refine r_aload_n 0 rfl dX11_readState_44 ?_
        refine r_iconst (v := 4) rfl dX11_readState_45 ?_
        refine r_Vn [.int _] dX11_readState_46 lk_X11_183 mb_X11_wrong in_X11_wrong se_X11_wrong rfl (c_X11_wrong) rfl rfl rfl (Nat.le_of_ble_eq_true rfl) (rfl) ?_
        rw [e9] at zh25
        first
          | (rw [if_neg zh25] at hs2; rw [hs2] at j49; exact j49)
          | (rw [e11] at zh41; rw [if_pos zh25, if_pos zh41] at hs2; rw [hs2] at j49; exact j49)
          | (rw [e11] at zh41; rw [if_pos zh25, if_neg zh41] at hs2; rw [hs2] at j49; exact j49)
    · refine r_aload_n 0 rfl dX11_readState_28 ?_
      refine r_iconst (v := 1) rfl dX11_readState_29 ?_
      refine r_Vn [.int _] dX11_readState_30 lk_X11_183 mb_X11_wrong in_X11_wrong se_X11_wrong rfl (c_X11_wrong) rfl rfl rfl (Nat.le_of_ble_eq_true rfl) (rfl) ?_
      refine r_goto (tgt := 49) dX11_readState_33 (by decide) ?_
      rw [e9] at zh25
      first
        | (rw [if_neg zh25] at hs2; rw [hs2] at j49; exact j49)
        | (rw [e11] at zh41; rw [if_pos zh25, if_pos zh41] at hs2; rw [hs2] at j49; exact j49)
        | (rw [e11] at zh41; rw [if_pos zh25, if_neg zh41] at hs2; rw [hs2] at j49; exact j49)
  · refine r_iconst (v := 1) rfl dX11_readState_12 ?_
    refine r_goto (tgt := 17) dX11_readState_13 (by decide) ?_
    refine r_Vn [.int _] dX11_readState_17 lk_X11_210 mb_X11_begins in_X11_begins se_X11_begins rfl (c_X11_begins hM hL hl ok) rfl rfl rfl (Nat.le_of_ble_eq_true rfl) (rfl) ?_
    have hb : S = 6 ↔ nI S = 6 := (nI_eq (b := 6) (by omega) (by decide)).symm
    rw [c0, e131, hSr] at zh9
    refine r_mem (MI2 := laQ D s1) (ML2 := lwQ E s1) ?_ ?_ rfl ?_
    · rw [hs1]; first | rw [if_neg (fun c => zh9 (hb.mp c)), if_pos rfl] | rw [if_pos (hb.mpr zh9), if_neg (by decide)]
    · rw [hs1]; first | rw [if_neg (fun c => zh9 (hb.mp c)), if_pos rfl] | rw [if_pos (hb.mpr zh9), if_neg (by decide)]
    refine r_aload_n 0 rfl dX11_readState_20 ?_
    refine r_geti dX11_readState_21 fl_X11_135 rfl ?_
    refine r_iconst (v := 3) rfl dX11_readState_24 ?_
    refine r_icmpeq (tgt := 36) dX11_readState_25 (by decide) (fun zh25 => ?_) (fun zh25 => ?_)
    · refine r_aload_n 0 rfl dX11_readState_36 ?_
      refine r_geti dX11_readState_37 fl_X11_156 rfl ?_
      refine r_iconst (v := 4) rfl dX11_readState_40 ?_
      refine r_icmplt (tgt := 49) dX11_readState_41 (by decide) (fun zh41 => ?_) (fun zh41 => ?_)
      · rw [e9] at zh25
        first
          | (rw [if_neg zh25] at hs2; rw [hs2] at j49; exact j49)
          | (rw [e11] at zh41; rw [if_pos zh25, if_pos zh41] at hs2; rw [hs2] at j49; exact j49)
          | (rw [e11] at zh41; rw [if_pos zh25, if_neg zh41] at hs2; rw [hs2] at j49; exact j49)
      · refine r_aload_n 0 rfl dX11_readState_44 ?_
        refine r_iconst (v := 4) rfl dX11_readState_45 ?_
        refine r_Vn [.int _] dX11_readState_46 lk_X11_183 mb_X11_wrong in_X11_wrong se_X11_wrong rfl (c_X11_wrong) rfl rfl rfl (Nat.le_of_ble_eq_true rfl) (rfl) ?_
        rw [e9] at zh25
        first
          | (rw [if_neg zh25] at hs2; rw [hs2] at j49; exact j49)
          | (rw [e11] at zh41; rw [if_pos zh25, if_pos zh41] at hs2; rw [hs2] at j49; exact j49)
          | (rw [e11] at zh41; rw [if_pos zh25, if_neg zh41] at hs2; rw [hs2] at j49; exact j49)
    · refine r_aload_n 0 rfl dX11_readState_28 ?_
      refine r_iconst (v := 1) rfl dX11_readState_29 ?_
      refine r_Vn [.int _] dX11_readState_30 lk_X11_183 mb_X11_wrong in_X11_wrong se_X11_wrong rfl (c_X11_wrong) rfl rfl rfl (Nat.le_of_ble_eq_true rfl) (rfl) ?_
      refine r_goto (tgt := 49) dX11_readState_33 (by decide) ?_
      rw [e9] at zh25
      first
        | (rw [if_neg zh25] at hs2; rw [hs2] at j49; exact j49)
        | (rw [e11] at zh41; rw [if_pos zh25, if_pos zh41] at hs2; rw [hs2] at j49; exact j49)
        | (rw [e11] at zh41; rw [if_pos zh25, if_neg zh41] at hs2; rw [hs2] at j49; exact j49)
set_option maxRecDepth 100000 in
theorem c_X11_readBegin (hM : x_Lay MR) (hL : L ≤ 600) (hl : D 124 7 = nI L) (ok : okR L s) : Cf X yX11_readBegin cX11_readBegin 4 none 5 [.ref 124] n SH (laQ D s) (lwQ E s) MR none (laQ (qbP L s D).2 (qbP L s D).1) (lwQ E (qbP L s D).1) MR := by
  have e12 : ∀ s : Rs, laQ D s 124 12 = s.1 := fun _ => rfl
  have e131 : ∀ s : Rs, laQ D s 131 = D 131 := fun s => laQ_b s (by decide)
  have c1 : (1 : Int32).toNatClampNeg = 1 := rfl
  have c2 : (2 : Int32).toNatClampNeg = 2 := rfl
  have c3 : (3 : Int32).toNatClampNeg = 3 := rfl
  obtain ⟨s0, hs0⟩ : ∃ s0, s0 = (if D 131 1 = -1 then s else wrR s 3) := ⟨_, rfl⟩
  have ok0 : okR L s0 := by rw [hs0]; exact okR_if2 (by decide) ok
  have ok1 := okR_n (T := D 127) ok0
  obtain ⟨r1, hr1⟩ : ∃ r1, r1 = saR (D 127) L (D 131 0) (nxR (D 127) L s0) := ⟨_, rfl⟩
  have okr1 : okR L r1.2 := by rw [hr1]; exact okR_sa ok1
  obtain ⟨r2, hr2⟩ : ∃ r2, r2 = rlR (D 127) L 97 4 (L + 1) (0, r1.2) := ⟨_, rfl⟩
  have okr2 : okR L r2.2 := by rw [hr2]; exact okR_rl _ _ okr1
  have okr3 := okR_sl (T := D 127) okr2
  obtain ⟨r4, hr4⟩ : ∃ r4, r4 = rlR (D 127) L 112 3 (L + 1) (0, slR (D 127) L r2.2) := ⟨_, rfl⟩
  have hq : qbP L s D = (r4.2, if 0 < r4.2.1 then D else u2 (u2 (u2 D 131 1 r1.1) 131 2 r2.1) 131 3 r4.1) := by
    unfold qbP
    rw [← hs0]
    simp only
    rw [← hr1, ← hr2, ← hr4]
  refine Ct_of (by decide) (Nat.le_of_ble_eq_true rfl) (fun G hG => ?_)
  have j15 : RW X G RX11 cX11_readBegin 4 (x_rm 5 0 0) n SH (laQ D s0) (lwQ E s0) MR 0 0 15 [(0, .ref 124)] [] := by
    refine r_aload_n 0 rfl dX11_readBegin_15 ?_
    refine r_Vn [] dX11_readBegin_16 lk_X11_173 mb_X11_next in_X11_next se_X11_next rfl (c_X11_next hM hL hl ok0.1) rfl rfl rfl (Nat.le_of_ble_eq_true rfl) (rfl) ?_
    refine r_aload_n 0 rfl dX11_readBegin_19 ?_
    refine r_Vf [] dX11_readBegin_20 lk_X11_214 mb_X11_stateAt in_X11_stateAt se_X11_stateAt rfl (c_X11_stateAt hM hL hl ok1) rfl rfl rfl (Nat.le_of_ble_eq_true rfl) (rfl) ?_
    rw [← hr1]
    refine r_istore_n (ls2 := [(1, .int r1.1), (0, .ref 124)]) dX11_readBegin_23 (by decide) rfl ?_
    refine r_aload_n 1 rfl dX11_readBegin_24 ?_
    refine r_iconst (v := 1) rfl dX11_readBegin_25 ?_
    refine r_Vf [.int _] dX11_readBegin_26 lk_X11_217 mb_X11_readLetters in_X11_readLetters se_X11_readLetters rfl (c_X11_readLetters_1 hM hL hl okr1) rfl rfl rfl (Nat.le_of_ble_eq_true rfl) (rfl) ?_
    rw [← hr2]
    refine r_istore_n (ls2 := [(2, .int r2.1), (1, .int r1.1), (0, .ref 124)]) dX11_readBegin_29 (by decide) rfl ?_
    refine r_aload_n 2 rfl dX11_readBegin_30 ?_
    refine r_Vn [] dX11_readBegin_31 lk_X11_221 mb_X11_readSlash in_X11_readSlash se_X11_readSlash rfl (c_X11_readSlash hM hL hl okr2) rfl rfl rfl (Nat.le_of_ble_eq_true rfl) (rfl) ?_
    refine r_aload_n 2 rfl dX11_readBegin_34 ?_
    refine r_iconst (v := 0) rfl dX11_readBegin_35 ?_
    refine r_Vf [.int _] dX11_readBegin_36 lk_X11_217 mb_X11_readLetters in_X11_readLetters se_X11_readLetters rfl (c_X11_readLetters_0 hM hL hl okr3) rfl rfl rfl (Nat.le_of_ble_eq_true rfl) (rfl) ?_
    rw [← hr4]
    refine r_istore_n (ls2 := [(3, .int r4.1), (2, .int r2.1), (1, .int r1.1), (0, .ref 124)]) dX11_readBegin_39 (by decide) rfl ?_
    refine r_aload_n 3 rfl dX11_readBegin_40 ?_
    refine r_geti dX11_readBegin_41 fl_X11_122 rfl ?_
    refine r_ifle (tgt := 48) dX11_readBegin_44 (by decide) (fun zh44 => ?_) (fun zh44 => ?_)
    · refine r_aload_n 3 rfl dX11_readBegin_48 ?_
      refine r_getr dX11_readBegin_49 fl_X11_40 rfl (hM _ _ _ rfl) ?_
      refine r_iconst (v := 1) rfl dX11_readBegin_52 ?_
      refine r_iload_n 2 rfl dX11_readBegin_53 ?_
      refine r_iast dX11_readBegin_54 rfl (vpk (k := 1) (by decide) (by decide) rfl) ?_
      refine r_aload_n 3 rfl dX11_readBegin_55 ?_
      refine r_getr dX11_readBegin_56 fl_X11_40 rfl (hM _ _ _ rfl) ?_
      refine r_iconst (v := 2) rfl dX11_readBegin_59 ?_
      refine r_iload_n 1 rfl dX11_readBegin_60 ?_
      refine r_iast dX11_readBegin_61 rfl (vpk (k := 2) (by decide) (by decide) rfl) ?_
      refine r_aload_n 3 rfl dX11_readBegin_62 ?_
      refine r_getr dX11_readBegin_63 fl_X11_40 rfl (hM _ _ _ rfl) ?_
      refine r_iconst (v := 3) rfl dX11_readBegin_66 ?_
      refine r_iload_n 0 rfl dX11_readBegin_67 ?_
      refine r_iast dX11_readBegin_68 rfl (vpk (k := 3) (by decide) (by decide) rfl) ?_
      exact r_vret hG dX11_readBegin_69 (by rw [e12] at zh44; rw [hq]; first | (rw [if_pos (Int32.not_le.mp zh44)]; exact ⟨rfl, rfl, rfl, rfl⟩) | (rw [if_neg (Int32.not_lt.mpr zh44), c1, c2, c3, laQ_D _ (by decide), laQ_D _ (by decide), laQ_D _ (by decide)]; exact ⟨rfl, rfl, rfl, rfl⟩))
    · exact r_vret hG dX11_readBegin_47 (by rw [e12] at zh44; rw [hq]; first | (rw [if_pos (Int32.not_le.mp zh44)]; exact ⟨rfl, rfl, rfl, rfl⟩) | (rw [if_neg (Int32.not_lt.mpr zh44), c1, c2, c3, laQ_D _ (by decide), laQ_D _ (by decide), laQ_D _ (by decide)]; exact ⟨rfl, rfl, rfl, rfl⟩))
  refine r_aload_n 0 rfl dX11_readBegin_0 ?_
  refine r_getr dX11_readBegin_1 fl_X11_40 rfl (hM _ _ _ rfl) ?_
  refine r_iconst (v := 1) rfl dX11_readBegin_4 ?_
  refine r_iald dX11_readBegin_5 rfl (vpk (k := 1) (by decide) (by decide) rfl) ?_
  refine r_iconst (v := (-1)) rfl dX11_readBegin_6 ?_
  refine r_icmpeq (tgt := 15) dX11_readBegin_7 (by decide) (fun zh7 => ?_) (fun zh7 => ?_)
  · rw [c1, e131] at zh7
    first
      | (rw [if_pos zh7] at hs0; rw [hs0] at j15; exact j15)
      | (rw [if_neg zh7] at hs0; rw [hs0] at j15; exact j15)
  · refine r_aload_n 0 rfl dX11_readBegin_10 ?_
    refine r_iconst (v := 3) rfl dX11_readBegin_11 ?_
    refine r_Vn [.int _] dX11_readBegin_12 lk_X11_183 mb_X11_wrong in_X11_wrong se_X11_wrong rfl (c_X11_wrong) rfl rfl rfl (Nat.le_of_ble_eq_true rfl) (rfl) ?_
    rw [c1, e131] at zh7
    first
      | (rw [if_pos zh7] at hs0; rw [hs0] at j15; exact j15)
      | (rw [if_neg zh7] at hs0; rw [hs0] at j15; exact j15)
set_option maxRecDepth 100000 in
theorem c_X11_readArc (hM : x_Lay MR) (hL : L ≤ 600) (hl : D 124 7 = nI L) (ok : okR L s) (hD : dgI D) : Cf X yX11_readArc cX11_readArc 6 none 5 [.ref 124] n SH (laQ D s) (lwQ E s) MR none (laQ (qaP L s D).2 (qaP L s D).1) (lwQ E (qaP L s D).1) MR := by
  obtain ⟨-, ⟨hA, hAr⟩, -⟩ := hD
  obtain ⟨A, hAe⟩ : ∃ A, A = kA D := ⟨_, rfl⟩
  rw [← hAe] at hA hAr
  have e12 : ∀ s : Rs, laQ D s 124 12 = s.1 := fun _ => rfl
  have e21 : ∀ s : Rs, laQ D s 124 21 = s.2.2.2.2.2.2.1 := fun _ => rfl
  have e22 : ∀ s : Rs, laQ D s 124 22 = s.2.2.2.2.2.2.2 := fun _ => rfl
  have e129 : ∀ s : Rs, laQ D s 129 = D 129 := fun s => laQ_b s (by decide)
  have c6 : (6 : Int32).toNatClampNeg = 6 := rfl
  obtain ⟨s1, hs1⟩ : ∃ s1, s1 = nxR (D 127) L (if A = 8 then wrR s 5 else s) := ⟨_, rfl⟩
  have ok1 : okR L s1 := by rw [hs1]; exact okR_n (okR_if (by decide) ok)
  obtain ⟨r1, hr1⟩ : ∃ r1, r1 = saR (D 127) L (D 131 0) s1 := ⟨_, rfl⟩
  have okr1 : okR L r1.2 := by rw [hr1]; exact okR_sa ok1
  obtain ⟨r2, hr2⟩ : ∃ r2, r2 = saR (D 127) L (D 131 0) r1.2 := ⟨_, rfl⟩
  have okr2 : okR L r2.2 := by rw [hr2]; exact okR_sa okr1
  obtain ⟨s3, hs3⟩ : ∃ s3, s3 = rcR (D 127) L 97 4 (L + 1) (qcI r2.2) := ⟨_, rfl⟩
  have ok3 : okR L s3 := by rw [hs3]; exact okR_rc _ _ (okR_qc okr2)
  have oks := okR_sl (T := D 127) ok3
  obtain ⟨s4, hs4⟩ : ∃ s4, s4 = rcR (D 127) L 112 3 (L + 1) (zRS (slR (D 127) L s3)) := ⟨_, rfl⟩
  have hq : qaP L s D = (s4, if 0 < s4.1 then D else u2 (u2 (u2 (u2 (u2 (u2 (u2 D 129 (7 + 6 * A) r1.1) 129 (7 + 6 * A + 1) r2.1) 129 (7 + 6 * A + 2) s3.2.2.2.2.2.2.1) 129 (7 + 6 * A + 3) s3.2.2.2.2.2.2.2) 129 (7 + 6 * A + 4) s4.2.2.2.2.2.2.1) 129 (7 + 6 * A + 5) s4.2.2.2.2.2.2.2) 129 6 (nI (A + 1))) := by
    unfold qaP
    rw [← hAe, ← hs1]
    simp only
    rw [← hr1, ← hr2, ← hs3, ← hs4]
  have hbad : A = 8 → 0 < s4.1 := fun h8 => by
    have key : ∀ (f : Nat) (s : Rs), okR L s → ¬ s.1 = 0 → ∀ a m, rcR (D 127) L a m f s = s := fun f s hok h0 a m => by
      cases f with
      | zero => rfl
      | succ f => rw [rcR, if_pos (ltR_k (by rw [hok.2.2.2.2 h0]; decide))]
    have hw : s1 = wrR s 5 := by rw [hs1, if_pos h8, nx_wr (by decide) ok]
    have f1 : ¬ s1.1 = 0 := by
      rw [hw]
      show ¬ (if s.1 = 0 then (5 : Int32) else s.1) = 0
      split
      · decide
      · assumption
    have wne : ∀ (s : Rs) (k : Int32), ¬ s.1 = 0 → ¬ (wrR s k).1 = 0 := fun s k h => by
      show ¬ (if s.1 = 0 then k else s.1) = 0
      rw [if_neg h]; exact h
    have sane : ∀ (s : Rs) (S : Int32), okR L s → ¬ s.1 = 0 → ¬ (saR (D 127) L S s).2.1 = 0 := fun s S hok h => by
      have hk : ¬ s.2.2.2.1 = 3 := by rw [hok.2.2.2.2 h]; decide
      unfold saR
      rw [if_neg hk, nx_wr (by decide) hok]
      exact wne _ _ h
    have f2 : ¬ r1.2.1 = 0 := by rw [hr1]; exact sane _ _ ok1 f1
    have f3 : ¬ r2.2.1 = 0 := by rw [hr2]; exact sane _ _ okr1 f2
    have f4 : ¬ (qcI r2.2).1 = 0 := by
      unfold qcI
      split
      · exact wne _ _ f3
      · exact f3
    have f5 : ¬ s3.1 = 0 := by rw [hs3, key _ _ (okR_qc okr2) f4]; exact f4
    have f6 : ¬ (slR (D 127) L s3).1 = 0 := by
      unfold slR
      rw [if_neg (fun z => by rw [ok3.2.2.2.2 f5] at z; exact absurd z.1 (by decide)), nx_wr (by decide) ok3]
      exact wne _ _ f5
    have f7 : ¬ s4.1 = 0 := by rw [hs4, key _ _ (okR_z oks) f6]; exact f6
    have ok4 : okR L s4 := by rw [hs4]; exact okR_rc _ _ (okR_z oks)
    exact Int32.lt_of_le_of_ne (Int32.not_lt.mp ok4.2.2.2.1) (Ne.symm f7)
  refine Ct_of (by decide) (Nat.le_of_ble_eq_true rfl) (fun G hG => ?_)
  have j71 : ∀ V, V = laQ D s4 → RW X G RX11 cX11_readArc 6 (x_rm 5 0 0) n SH V (lwQ E s4) MR 0 0 71 [(5, .int s3.2.2.2.2.2.2.2), (4, .int s3.2.2.2.2.2.2.1), (3, .int r2.1), (2, .int r1.1), (1, .int (nI (7 + 6 * A))), (0, .ref 124)] [] := by
    intro V hV
    subst hV
    by_cases hp : 0 < s4.1
    ·
      refine r_aload_n 5 rfl dX11_readArc_71 ?_
      refine r_geti dX11_readArc_72 fl_X11_122 rfl ?_
      refine r_ifle (tgt := 79) dX11_readArc_75 (by decide) (fun zh75 => ?_) (fun zh75 => ?_)
      · exact absurd zh75 (fun c => absurd hp (Int32.not_lt.mpr c))
      exact r_vret hG dX11_readArc_78 (by rw [hq, if_pos hp]; exact ⟨rfl, rfl, rfl, rfl⟩)
    · have hA7 : A < 8 := by
        rcases Nat.lt_or_ge A 8 with h | h
        · exact h
        · exact absurd (hbad (by omega)) hp
      have ix : ∀ j, j < 6 → nI (7 + 6 * A) + nI j = nI (7 + 6 * A + j) := fun j _ => nI_add _ _
      have i0 : nI (7 + 6 * A) + 0 = nI (7 + 6 * A + 0) := ix 0 (by decide)
      have i1 : nI (7 + 6 * A) + 1 = nI (7 + 6 * A + 1) := ix 1 (by decide)
      have i2 : nI (7 + 6 * A) + 2 = nI (7 + 6 * A + 2) := ix 2 (by decide)
      have i3 : nI (7 + 6 * A) + 3 = nI (7 + 6 * A + 3) := ix 3 (by decide)
      have i4 : nI (7 + 6 * A) + 4 = nI (7 + 6 * A + 4) := ix 4 (by decide)
      have i5 : nI (7 + 6 * A) + 5 = nI (7 + 6 * A + 5) := ix 5 (by decide)
      refine r_aload_n 5 rfl dX11_readArc_71 ?_
      refine r_geti dX11_readArc_72 fl_X11_122 rfl ?_
      refine r_ifle (tgt := 79) dX11_readArc_75 (by decide) (fun zh75 => ?_) (fun zh75 => ?_)
      rotate_left
      · exact absurd zh75 (fun c => hp (Int32.not_le.mp c))
      refine r_aload_n 5 rfl dX11_readArc_79 ?_
      refine r_getr dX11_readArc_80 fl_X11_34 rfl (hM _ _ _ rfl) ?_
      refine r_iload_n 4 rfl dX11_readArc_83 ?_
      refine r_iconst (v := 0) rfl dX11_readArc_84 ?_
      refine r_iadd dX11_readArc_85 ?_
      refine r_iload_n 3 rfl dX11_readArc_86 ?_
      refine r_iast dX11_readArc_87 rfl (by rw [i0]; exact vp_in_nI (by omega) (by decide)) ?_
      refine r_aload_n 5 rfl dX11_readArc_88 ?_
      refine r_getr dX11_readArc_89 fl_X11_34 rfl (hM _ _ _ rfl) ?_
      refine r_iload_n 4 rfl dX11_readArc_92 ?_
      refine r_iconst (v := 1) rfl dX11_readArc_93 ?_
      refine r_iadd dX11_readArc_94 ?_
      refine r_iload_n 2 rfl dX11_readArc_95 ?_
      refine r_iast dX11_readArc_96 rfl (by rw [i1]; exact vp_in_nI (by omega) (by decide)) ?_
      refine r_aload_n 5 rfl dX11_readArc_97 ?_
      refine r_getr dX11_readArc_98 fl_X11_34 rfl (hM _ _ _ rfl) ?_
      refine r_iload_n 4 rfl dX11_readArc_101 ?_
      refine r_iconst (v := 2) rfl dX11_readArc_102 ?_
      refine r_iadd dX11_readArc_103 ?_
      refine r_iload 1 rfl dX11_readArc_104 ?_
      refine r_iast dX11_readArc_106 rfl (by rw [i2]; exact vp_in_nI (by omega) (by decide)) ?_
      refine r_aload_n 5 rfl dX11_readArc_107 ?_
      refine r_getr dX11_readArc_108 fl_X11_34 rfl (hM _ _ _ rfl) ?_
      refine r_iload_n 4 rfl dX11_readArc_111 ?_
      refine r_iconst (v := 3) rfl dX11_readArc_112 ?_
      refine r_iadd dX11_readArc_113 ?_
      refine r_iload 0 rfl dX11_readArc_114 ?_
      refine r_iast dX11_readArc_116 rfl (by rw [i3]; exact vp_in_nI (by omega) (by decide)) ?_
      refine r_aload_n 5 rfl dX11_readArc_117 ?_
      refine r_getr dX11_readArc_118 fl_X11_34 rfl (hM _ _ _ rfl) ?_
      refine r_iload_n 4 rfl dX11_readArc_121 ?_
      refine r_iconst (v := 4) rfl dX11_readArc_122 ?_
      refine r_iadd dX11_readArc_123 ?_
      refine r_aload_n 5 rfl dX11_readArc_124 ?_
      refine r_geti dX11_readArc_125 fl_X11_230 rfl ?_
      refine r_iast dX11_readArc_128 rfl (by rw [i4]; exact vp_in_nI (by omega) (by decide)) ?_
      refine r_aload_n 5 rfl dX11_readArc_129 ?_
      refine r_getr dX11_readArc_130 fl_X11_34 rfl (hM _ _ _ rfl) ?_
      refine r_iload_n 4 rfl dX11_readArc_133 ?_
      refine r_iconst (v := 5) rfl dX11_readArc_134 ?_
      refine r_iadd dX11_readArc_135 ?_
      refine r_aload_n 5 rfl dX11_readArc_136 ?_
      refine r_geti dX11_readArc_137 fl_X11_233 rfl ?_
      refine r_iast dX11_readArc_140 rfl (by rw [i5]; exact vp_in_nI (by omega) (by decide)) ?_
      refine r_aload_n 5 rfl dX11_readArc_141 ?_
      refine r_getr dX11_readArc_142 fl_X11_34 rfl (hM _ _ _ rfl) ?_
      refine r_bipush (v := 6) rfl dX11_readArc_145 ?_
      refine r_dup2 rfl rfl dX11_readArc_147 ?_
      refine r_iald dX11_readArc_148 rfl (vpk (k := 6) (by decide) (by decide) rfl) ?_
      refine r_iconst (v := 1) rfl dX11_readArc_149 ?_
      refine r_iadd dX11_readArc_150 ?_
      refine r_iast dX11_readArc_151 rfl (vpk (k := 6) (by decide) (by decide) rfl) ?_
      exact r_vret hG dX11_readArc_152 (by
          rw [hq, if_neg hp, i0, i1, i2, i3, i4, i5, c6, nI_clamp (by omega), nI_clamp (by omega), nI_clamp (by omega), nI_clamp (by omega), nI_clamp (by omega), nI_clamp (by omega)]
          refine ⟨rfl, ?_, rfl, rfl⟩
          have h6 : ∀ (V : Mi) (j : Nat) (x : Int32), j ≠ 6 → u2 V 129 j x 129 6 = V 129 6 := fun V j x hj => u2_ne _ _ (by omega)
          rw [h6 _ _ _ (by omega), h6 _ _ _ (by omega), h6 _ _ _ (by omega), h6 _ _ _ (by omega), h6 _ _ _ (by omega), h6 _ _ _ (by omega), e129, hAr, nI_1]
          have h21 : ∀ (V : Mi) (j : Nat) (x : Int32), u2 V 129 j x 124 = V 124 := fun V j x => u2_row _ _ (by decide)
          simp only [h21]
          rw [e21, e22]
          simp (discharger := decide) only [laQ_D]
          rfl)
  have hi6 : (7 : Int32) + 6 * nI A = nI (7 + 6 * A) := by
    have h1 := pk_mul 6 A
    have h2 := nI_add 7 (6 * A)
    rw [← h1] at h2
    exact h2
  refine r_aload_n 0 rfl dX11_readArc_0 ?_
  refine r_aload_n 0 rfl dX11_readArc_1 ?_
  refine r_getr dX11_readArc_2 fl_X11_34 rfl (hM _ _ _ rfl) ?_
  refine r_bipush (v := 6) rfl dX11_readArc_5 ?_
  refine r_iald dX11_readArc_7 rfl (vpk (k := 6) (by decide) (by decide) rfl) ?_
  refine r_bipush (v := 8) rfl dX11_readArc_8 ?_
  refine r_icmpne (tgt := 17) dX11_readArc_10 (by decide) (fun zh10 => ?_) (fun zh10 => ?_)
  · refine r_iconst (v := 0) rfl dX11_readArc_17 ?_
    refine r_Vn [.int _] dX11_readArc_18 lk_X11_210 mb_X11_begins in_X11_begins se_X11_begins rfl (c_X11_begins hM hL hl ok) rfl rfl rfl (Nat.le_of_ble_eq_true rfl) (rfl) ?_
    have hb : A = 8 ↔ nI A = 8 := (nI_eq (b := 8) (by omega) (by decide)).symm
    rw [c6, e129, hAr] at zh10
    refine r_mem (MI2 := laQ D s1) (ML2 := lwQ E s1) ?_ ?_ rfl ?_
    · rw [hs1]; first | rw [if_neg (fun c => zh10 (hb.mp c)), if_pos rfl] | rw [if_pos (hb.mpr zh10), if_neg (by decide)]
    · rw [hs1]; first | rw [if_neg (fun c => zh10 (hb.mp c)), if_pos rfl] | rw [if_pos (hb.mpr zh10), if_neg (by decide)]
    refine r_bipush (v := 7) rfl dX11_readArc_21 ?_
    refine r_bipush (v := 6) rfl dX11_readArc_23 ?_
    refine r_aload_n 0 rfl dX11_readArc_25 ?_
    refine r_getr dX11_readArc_26 fl_X11_34 rfl (hM _ _ _ rfl) ?_
    refine r_bipush (v := 6) rfl dX11_readArc_29 ?_
    refine r_iald dX11_readArc_31 rfl (vpk (k := 6) (by decide) (by decide) rfl) ?_
    refine r_imul dX11_readArc_32 ?_
    refine r_iadd dX11_readArc_33 ?_
    rw [c6, e129, hAr, hi6]
    refine r_istore_n (ls2 := [(1, .int (nI (7 + 6 * A))), (0, .ref 124)]) dX11_readArc_34 (by decide) rfl ?_
    refine r_aload_n 1 rfl dX11_readArc_35 ?_
    refine r_Vf [] dX11_readArc_36 lk_X11_214 mb_X11_stateAt in_X11_stateAt se_X11_stateAt rfl (c_X11_stateAt hM hL hl ok1) rfl rfl rfl (Nat.le_of_ble_eq_true rfl) (rfl) ?_
    rw [← hr1]
    refine r_istore_n (ls2 := [(2, .int r1.1), (1, .int (nI (7 + 6 * A))), (0, .ref 124)]) dX11_readArc_39 (by decide) rfl ?_
    refine r_aload_n 2 rfl dX11_readArc_40 ?_
    refine r_Vf [] dX11_readArc_41 lk_X11_214 mb_X11_stateAt in_X11_stateAt se_X11_stateAt rfl (c_X11_stateAt hM hL hl okr1) rfl rfl rfl (Nat.le_of_ble_eq_true rfl) (rfl) ?_
    rw [← hr2]
    refine r_istore_n (ls2 := [(3, .int r2.1), (2, .int r1.1), (1, .int (nI (7 + 6 * A))), (0, .ref 124)]) dX11_readArc_44 (by decide) rfl ?_
    refine r_aload_n 3 rfl dX11_readArc_45 ?_
    refine r_iconst (v := 1) rfl dX11_readArc_46 ?_
    refine r_Vn [.int _] dX11_readArc_47 lk_X11_236 mb_X11_readChanges in_X11_readChanges se_X11_readChanges rfl (c_X11_readChanges_1 hM hL hl okr2 hs3) rfl rfl rfl (Nat.le_of_ble_eq_true rfl) (rfl) ?_
    refine r_aload_n 3 rfl dX11_readArc_50 ?_
    refine r_geti dX11_readArc_51 fl_X11_230 rfl ?_
    rw [e21]
    refine r_istore (ls2 := [(4, .int s3.2.2.2.2.2.2.1), (3, .int r2.1), (2, .int r1.1), (1, .int (nI (7 + 6 * A))), (0, .ref 124)]) dX11_readArc_54 (by decide) rfl ?_
    refine r_aload_n 4 rfl dX11_readArc_56 ?_
    refine r_geti dX11_readArc_57 fl_X11_233 rfl ?_
    rw [e22]
    refine r_istore (ls2 := [(5, .int s3.2.2.2.2.2.2.2), (4, .int s3.2.2.2.2.2.2.1), (3, .int r2.1), (2, .int r1.1), (1, .int (nI (7 + 6 * A))), (0, .ref 124)]) dX11_readArc_60 (by decide) rfl ?_
    refine r_aload_n 5 rfl dX11_readArc_62 ?_
    refine r_Vn [] dX11_readArc_63 lk_X11_221 mb_X11_readSlash in_X11_readSlash se_X11_readSlash rfl (c_X11_readSlash hM hL hl ok3) rfl rfl rfl (Nat.le_of_ble_eq_true rfl) (rfl) ?_
    refine r_aload_n 5 rfl dX11_readArc_66 ?_
    refine r_iconst (v := 0) rfl dX11_readArc_67 ?_
    refine r_Vn [.int _] dX11_readArc_68 lk_X11_236 mb_X11_readChanges in_X11_readChanges se_X11_readChanges rfl (c_X11_readChanges_0 hM hL hl oks hs4) rfl rfl rfl (Nat.le_of_ble_eq_true rfl) (rfl) ?_
    exact r_sub [0, 1, 2, 3, 4, 5] rfl (j71 _ rfl)
  · refine r_iconst (v := 1) rfl dX11_readArc_13 ?_
    refine r_goto (tgt := 18) dX11_readArc_14 (by decide) ?_
    refine r_Vn [.int _] dX11_readArc_18 lk_X11_210 mb_X11_begins in_X11_begins se_X11_begins rfl (c_X11_begins hM hL hl ok) rfl rfl rfl (Nat.le_of_ble_eq_true rfl) (rfl) ?_
    have hb : A = 8 ↔ nI A = 8 := (nI_eq (b := 8) (by omega) (by decide)).symm
    rw [c6, e129, hAr] at zh10
    refine r_mem (MI2 := laQ D s1) (ML2 := lwQ E s1) ?_ ?_ rfl ?_
    · rw [hs1]; first | rw [if_neg (fun c => zh10 (hb.mp c)), if_pos rfl] | rw [if_pos (hb.mpr zh10), if_neg (by decide)]
    · rw [hs1]; first | rw [if_neg (fun c => zh10 (hb.mp c)), if_pos rfl] | rw [if_pos (hb.mpr zh10), if_neg (by decide)]
    refine r_bipush (v := 7) rfl dX11_readArc_21 ?_
    refine r_bipush (v := 6) rfl dX11_readArc_23 ?_
    refine r_aload_n 0 rfl dX11_readArc_25 ?_
    refine r_getr dX11_readArc_26 fl_X11_34 rfl (hM _ _ _ rfl) ?_
    refine r_bipush (v := 6) rfl dX11_readArc_29 ?_
    refine r_iald dX11_readArc_31 rfl (vpk (k := 6) (by decide) (by decide) rfl) ?_
    refine r_imul dX11_readArc_32 ?_
    refine r_iadd dX11_readArc_33 ?_
    rw [c6, e129, hAr, hi6]
    refine r_istore_n (ls2 := [(1, .int (nI (7 + 6 * A))), (0, .ref 124)]) dX11_readArc_34 (by decide) rfl ?_
    refine r_aload_n 1 rfl dX11_readArc_35 ?_
    refine r_Vf [] dX11_readArc_36 lk_X11_214 mb_X11_stateAt in_X11_stateAt se_X11_stateAt rfl (c_X11_stateAt hM hL hl ok1) rfl rfl rfl (Nat.le_of_ble_eq_true rfl) (rfl) ?_
    rw [← hr1]
    refine r_istore_n (ls2 := [(2, .int r1.1), (1, .int (nI (7 + 6 * A))), (0, .ref 124)]) dX11_readArc_39 (by decide) rfl ?_
    refine r_aload_n 2 rfl dX11_readArc_40 ?_
    refine r_Vf [] dX11_readArc_41 lk_X11_214 mb_X11_stateAt in_X11_stateAt se_X11_stateAt rfl (c_X11_stateAt hM hL hl okr1) rfl rfl rfl (Nat.le_of_ble_eq_true rfl) (rfl) ?_
    rw [← hr2]
    refine r_istore_n (ls2 := [(3, .int r2.1), (2, .int r1.1), (1, .int (nI (7 + 6 * A))), (0, .ref 124)]) dX11_readArc_44 (by decide) rfl ?_
    refine r_aload_n 3 rfl dX11_readArc_45 ?_
    refine r_iconst (v := 1) rfl dX11_readArc_46 ?_
    refine r_Vn [.int _] dX11_readArc_47 lk_X11_236 mb_X11_readChanges in_X11_readChanges se_X11_readChanges rfl (c_X11_readChanges_1 hM hL hl okr2 hs3) rfl rfl rfl (Nat.le_of_ble_eq_true rfl) (rfl) ?_
    refine r_aload_n 3 rfl dX11_readArc_50 ?_
    refine r_geti dX11_readArc_51 fl_X11_230 rfl ?_
    rw [e21]
    refine r_istore (ls2 := [(4, .int s3.2.2.2.2.2.2.1), (3, .int r2.1), (2, .int r1.1), (1, .int (nI (7 + 6 * A))), (0, .ref 124)]) dX11_readArc_54 (by decide) rfl ?_
    refine r_aload_n 4 rfl dX11_readArc_56 ?_
    refine r_geti dX11_readArc_57 fl_X11_233 rfl ?_
    rw [e22]
    refine r_istore (ls2 := [(5, .int s3.2.2.2.2.2.2.2), (4, .int s3.2.2.2.2.2.2.1), (3, .int r2.1), (2, .int r1.1), (1, .int (nI (7 + 6 * A))), (0, .ref 124)]) dX11_readArc_60 (by decide) rfl ?_
    refine r_aload_n 5 rfl dX11_readArc_62 ?_
    refine r_Vn [] dX11_readArc_63 lk_X11_221 mb_X11_readSlash in_X11_readSlash se_X11_readSlash rfl (c_X11_readSlash hM hL hl ok3) rfl rfl rfl (Nat.le_of_ble_eq_true rfl) (rfl) ?_
    refine r_aload_n 5 rfl dX11_readArc_66 ?_
    refine r_iconst (v := 0) rfl dX11_readArc_67 ?_
    refine r_Vn [.int _] dX11_readArc_68 lk_X11_236 mb_X11_readChanges in_X11_readChanges se_X11_readChanges rfl (c_X11_readChanges_0 hM hL hl oks hs4) rfl rfl rfl (Nat.le_of_ble_eq_true rfl) (rfl) ?_
    exact r_sub [0, 1, 2, 3, 4, 5] rfl (j71 _ rfl)
theorem nx_lit {T : Nat → Int32} {L : Nat} : ∀ (f : Nat) (q : Int32 × Int32 × Rs), okR L q.2.2 → ¬ q.2.2.1 = 0 → rgR T L f q = q
  | 0, _, _, _ => rfl
  | f + 1, q, hok, h0 => by rw [rgR, if_pos (lit_k (by rw [hok.2.2.2.2 h0]; decide))]
set_option maxRecDepth 100000 in
theorem c_X11_readGate (hM : x_Lay MR) (hL : L ≤ 600) (hl : D 124 7 = nI L) (ok : okR L s) (hD : dgI D) : Cf X yX11_readGate cX11_readGate 5 none 5 [.ref 124] n SH (laQ D s) (lwQ E s) MR none (laQ (qgP L s D).2 (qgP L s D).1) (lwQ E (qgP L s D).1) MR := by
  obtain ⟨-, -, ⟨hA, hAr⟩⟩ := hD
  obtain ⟨A, hAe⟩ : ∃ A, A = kG D := ⟨_, rfl⟩
  rw [← hAe] at hA hAr
  have e12 : ∀ s : Rs, laQ D s 124 12 = s.1 := fun _ => rfl
  have e129 : ∀ s : Rs, laQ D s 129 = D 129 := fun s => laQ_b s (by decide)
  have c55 : (55 : Int32).toNatClampNeg = 55 := rfl
  obtain ⟨s1, hs1⟩ : ∃ s1, s1 = nxR (D 127) L (if A = 16 then wrR s 5 else s) := ⟨_, rfl⟩
  have ok1 : okR L s1 := by rw [hs1]; exact okR_n (okR_if (by decide) ok)
  obtain ⟨s1b, hs1b⟩ : ∃ s1b, s1b = (if fnR s1 = -1 then wrR s1 1 else s1) := ⟨_, rfl⟩
  have ok1b : okR L s1b := by rw [hs1b]; exact okR_if (by decide) ok1
  obtain ⟨s2, hs2⟩ : ∃ s2, s2 = nxR (D 127) L s1b := ⟨_, rfl⟩
  have ok2 : okR L s2 := by rw [hs2]; exact okR_n ok1b
  obtain ⟨q, hqe⟩ : ∃ q, q = rgR (D 127) L (L + 1) (0, 0, s2) := ⟨_, rfl⟩
  have okq : okR L q.2.2 := by rw [hqe]; exact okR_rg _ _ ok2
  have hq : qgP L s D = (q.2.2, if 0 < q.2.2.1 then D else u2 (u2 (u2 D 129 (56 + 2 * A) (fnR s1)) 129 (56 + 2 * A + 1) (numC q.2.1 (63 &&& (q.1 ^^^ -1)) 6)) 129 55 (nI (A + 1))) := by
    unfold qgP
    rw [← hAe, ← hs1]
    simp only
    rw [← hs1b, ← hs2, ← hqe]
  have wne : ∀ (s : Rs) (k : Int32), ¬ s.1 = 0 → ¬ (wrR s k).1 = 0 := fun s k h => by
    show ¬ (if s.1 = 0 then k else s.1) = 0
    rw [if_neg h]; exact h
  have hbad : A = 16 → 0 < q.2.2.1 := fun h8 => by
    have hw : s1 = wrR s 5 := by rw [hs1, if_pos h8, nx_wr (by decide) ok]
    have f1 : ¬ s1.1 = 0 := by
      rw [hw]
      show ¬ (if s.1 = 0 then (5 : Int32) else s.1) = 0
      split
      · decide
      · assumption
    have f2 : ¬ s1b.1 = 0 := by
      rw [hs1b]
      split
      · exact wne _ _ f1
      · exact f1
    have f3 : ¬ s2.1 = 0 := by rw [hs2, nx_k0 ok1b f2]; exact f2
    have f4 : ¬ q.2.2.1 = 0 := by rw [hqe, nx_lit _ _ ok2 f3]; exact f3
    exact Int32.lt_of_le_of_ne (Int32.not_lt.mp okq.2.2.2.1) (Ne.symm f4)
  refine Ct_of (by decide) (Nat.le_of_ble_eq_true rfl) (fun G hG => ?_)
  have j142 : ∀ V, V = laQ D q.2.2 → ∀ k, RW X G RX11 cX11_readGate 5 (x_rm 5 0 0) n SH V (lwQ E q.2.2) MR 0 0 142 [(4, .int k), (3, .int q.2.1), (2, .int q.1), (1, .int (fnR s1)), (0, .ref 124)] [] := by
    intro V hV k
    subst hV
    by_cases hp : 0 < q.2.2.1
    ·
      refine r_aload_n 4 rfl dX11_readGate_142 ?_
      refine r_geti dX11_readGate_143 fl_X11_122 rfl ?_
      refine r_ifle (tgt := 150) dX11_readGate_146 (by decide) (fun zh146 => ?_) (fun zh146 => ?_)
      · exact absurd zh146 (fun c => absurd hp (Int32.not_lt.mpr c))
      exact r_vret hG dX11_readGate_149 (by rw [hq, if_pos hp]; exact ⟨rfl, rfl, rfl, rfl⟩)
    · have hA7 : A < 16 := by
        rcases Nat.lt_or_ge A 16 with h | h
        · exact h
        · exact absurd (hbad (by omega)) hp
      have i0 : (56 : Int32) + 2 * nI A = nI (56 + 2 * A) := by
        have h1 := pk_mul 2 A
        have h2 := nI_add 56 (2 * A)
        rw [← h1] at h2
        exact h2
      have i1 : nI (56 + 2 * A) + 1 = nI (56 + 2 * A + 1) := nI_1 _
      have h55 : ∀ (V : Mi) (j : Nat) (x : Int32), j ≠ 55 → u2 V 129 j x 129 55 = V 129 55 := fun V j x hj => u2_ne _ _ (by omega)
      have g1 : ∀ x, u2 (laQ D q.2.2) 129 (nI (56 + 2 * A)).toNatClampNeg x 129 55 = nI A := fun x => by rw [nI_clamp (by omega), h55 _ _ _ (by omega), e129, hAr]
      have g2 : ∀ x y, u2 (u2 (laQ D q.2.2) 129 (nI (56 + 2 * A)).toNatClampNeg x) 129 (nI (56 + 2 * A + 1)).toNatClampNeg y 129 55 = nI A := fun x y => by rw [nI_clamp (n := 56 + 2 * A + 1) (by omega), h55 _ _ _ (by omega), g1]
      refine r_aload_n 4 rfl dX11_readGate_142 ?_
      refine r_geti dX11_readGate_143 fl_X11_122 rfl ?_
      refine r_ifle (tgt := 150) dX11_readGate_146 (by decide) (fun zh146 => ?_) (fun zh146 => ?_)
      rotate_left
      · exact absurd zh146 (fun c => hp (Int32.not_le.mp c))
      refine r_aload_n 4 rfl dX11_readGate_150 ?_
      refine r_getr dX11_readGate_151 fl_X11_34 rfl (hM _ _ _ rfl) ?_
      refine r_bipush (v := 56) rfl dX11_readGate_154 ?_
      refine r_iconst (v := 2) rfl dX11_readGate_156 ?_
      refine r_aload_n 4 rfl dX11_readGate_157 ?_
      refine r_getr dX11_readGate_158 fl_X11_34 rfl (hM _ _ _ rfl) ?_
      refine r_bipush (v := 55) rfl dX11_readGate_161 ?_
      refine r_iald dX11_readGate_163 rfl (vpk (k := 55) (by decide) (by decide) rfl) ?_
      refine r_imul dX11_readGate_164 ?_
      refine r_iadd dX11_readGate_165 ?_
      rw [c55, e129, hAr, i0]
      refine r_iload_n 3 rfl dX11_readGate_166 ?_
      refine r_iast dX11_readGate_167 rfl (vp_in_nI (show 56 + 2 * A < 88 by omega) (by decide)) ?_
      refine r_aload_n 4 rfl dX11_readGate_168 ?_
      refine r_getr dX11_readGate_169 fl_X11_34 rfl (hM _ _ _ rfl) ?_
      refine r_bipush (v := 56) rfl dX11_readGate_172 ?_
      refine r_iconst (v := 2) rfl dX11_readGate_174 ?_
      refine r_aload_n 4 rfl dX11_readGate_175 ?_
      refine r_getr dX11_readGate_176 fl_X11_34 rfl (hM _ _ _ rfl) ?_
      refine r_bipush (v := 55) rfl dX11_readGate_179 ?_
      refine r_iald dX11_readGate_181 rfl (vpk (k := 55) (by decide) (by decide) rfl) ?_
      refine r_imul dX11_readGate_182 ?_
      refine r_iadd dX11_readGate_183 ?_
      refine r_iconst (v := 1) rfl dX11_readGate_184 ?_
      refine r_iadd dX11_readGate_185 ?_
      rw [c55, g1, i0, i1]
      refine r_iload_n 1 rfl dX11_readGate_186 ?_
      refine r_bipush (v := 63) rfl dX11_readGate_187 ?_
      refine r_iload_n 2 rfl dX11_readGate_189 ?_
      refine r_iconst (v := (-1)) rfl dX11_readGate_190 ?_
      refine r_ixor dX11_readGate_191 ?_
      refine r_iand dX11_readGate_192 ?_
      refine r_Sf [.int _, .int _] dX11_readGate_193 lk_X11_245 mb_X11_cubeOf sc_X11_cubeOf rfl (c_X11_cubeOf) rfl (Nat.le_of_ble_eq_true rfl) (rfl) ?_
      refine r_iast dX11_readGate_196 rfl (vp_in_nI (show 56 + 2 * A + 1 < 88 by omega) (by decide)) ?_
      refine r_aload_n 4 rfl dX11_readGate_197 ?_
      refine r_getr dX11_readGate_198 fl_X11_34 rfl (hM _ _ _ rfl) ?_
      refine r_bipush (v := 55) rfl dX11_readGate_201 ?_
      refine r_dup2 rfl rfl dX11_readGate_203 ?_
      refine r_iald dX11_readGate_204 rfl (vpk (k := 55) (by decide) (by decide) rfl) ?_
      refine r_iconst (v := 1) rfl dX11_readGate_205 ?_
      rw [c55, g2]
      refine r_iadd dX11_readGate_206 ?_
      rw [nI_1]
      refine r_iast dX11_readGate_207 rfl (vpk (k := 55) (by decide) (by decide) rfl) ?_
      exact r_vret hG dX11_readGate_208 (by
          rw [hq, if_neg hp, nI_clamp (by omega), nI_clamp (by omega), c55]
          refine ⟨rfl, ?_, rfl, rfl⟩
          simp (discharger := decide) only [laQ_D])
  have loop : ∀ f, ∀ z : Int32 × Int32 × Rs, okR L z.2.2 → (z.2.2.2.2.2.1 = 2 → L - z.2.2.2.1 < f) → rgR (D 127) L f z = q → RW X G RX11 cX11_readGate 5 (x_rm 5 0 0) n SH (laQ D z.2.2) (lwQ E z.2.2) MR 0 0 79 [(4, .int (lit z.2.2)), (3, .int z.2.1), (2, .int z.1), (1, .int (fnR s1)), (0, .ref 124)] [] := by
    intro f
    induction f with
    | zero =>
      intro z hok hm hz
      have hk : lit z.2.2 = -1 := lit_k (fun c => absurd (hm c) (Nat.not_lt_zero _))
      refine r_iload 0 rfl dX11_readGate_79 ?_
      refine r_iconst (v := (-1)) rfl dX11_readGate_81 ?_
      refine r_icmpeq (tgt := 142) dX11_readGate_82 (by decide) (fun zh82 => ?_) (fun zh82 => ?_)
      rotate_left
      · exact absurd zh82 (fun c => c hk)
      have e : z = q := hz
      subst e
      exact j142 _ rfl _
    | succ f ih =>
      intro z hok hm hz
      rw [rgR] at hz
      obtain ⟨kk, hkk⟩ : ∃ kk, kk = lit z.2.2 := ⟨_, rfl⟩
      have hkd : ¬ kk = -1 → z.2.2.2.2.2.1 = 2 := fun c => Classical.not_not.mp fun d => c (hkk.trans (lit_k d))
      rw [← hkk] at hz ⊢
      have hst : ∀ s3, s3 = (if bitR z.1 kk = true then wrR z.2.2 3 else z.2.2) → gt1R (D 127) L z = (if (nxR (D 127) L s3).2.2.2.1 = 4 ∧ (nxR (D 127) L s3).2.2.2.2.1 = 39 then (z.1 ||| ((1 : Int32) <<< (kk &&& 31)), z.2.1, nxR (D 127) L (nxR (D 127) L s3)) else (z.1 ||| ((1 : Int32) <<< (kk &&& 31)), z.2.1 ||| ((1 : Int32) <<< (kk &&& 31)), nxR (D 127) L s3)) := fun s3 h3 => by
        unfold gt1R
        rw [← hkk, ← h3]
      have j99 : ¬ kk = -1 → ∀ s3, s3 = (if bitR z.1 kk = true then wrR z.2.2 3 else z.2.2) → RW X G RX11 cX11_readGate 5 (x_rm 5 0 0) n SH (laQ D s3) (lwQ E s3) MR 0 0 99 [(4, .int kk), (3, .int z.2.1), (2, .int z.1), (1, .int (fnR s1)), (0, .ref 124)] [] := by
        intro hne s3 h3
        have ok3 : okR L s3 := by rw [h3]; exact okR_if (by decide) hok
        have okn := okR_n (T := D 127) ok3
        have hm2 := mea3 (T := D 127) hok (hkd hne) (hm (hkd hne))
        have okg := okR_g1 (T := D 127) hok
        rw [if_neg hne] at hz
        have hg := hst s3 h3
        refine r_iload_n 2 rfl dX11_readGate_99 ?_
        refine r_iconst (v := 1) rfl dX11_readGate_100 ?_
        refine r_iload 0 rfl dX11_readGate_101 ?_
        refine r_ishl dX11_readGate_103 ?_
        refine r_ior dX11_readGate_104 ?_
        refine r_nmi (fun zv105 ze105 => ?_)
        refine r_istore_n (ls2 := [(2, .int zv105), (4, .int kk), (3, .int z.2.1), (1, .int (fnR s1)), (0, .ref 124)]) dX11_readGate_105 (by decide) rfl ?_
        refine r_aload_n 4 rfl dX11_readGate_106 ?_
        refine r_Vn [] dX11_readGate_107 lk_X11_173 mb_X11_next in_X11_next se_X11_next rfl (c_X11_next hM hL hl ok3.1) rfl rfl rfl (Nat.le_of_ble_eq_true rfl) (rfl) ?_
        refine r_aload_n 4 rfl dX11_readGate_110 ?_
        refine r_bipush (v := 39) rfl dX11_readGate_111 ?_
        refine r_Vf [.int _] dX11_readGate_113 lk_X11_179 mb_X11_isSign in_X11_isSign se_X11_isSign rfl (c_X11_isSign) rfl rfl rfl (Nat.le_of_ble_eq_true rfl) (rfl) ?_
        refine r_ifeq (tgt := 126) dX11_readGate_116 (by decide) (fun zh116 => ?_) (fun zh116 => ?_)
        · refine r_iload_n 2 rfl dX11_readGate_126 ?_
          refine r_iconst (v := 1) rfl dX11_readGate_127 ?_
          refine r_iload 1 rfl dX11_readGate_128 ?_
          refine r_ishl dX11_readGate_130 ?_
          refine r_ior dX11_readGate_131 ?_
          refine r_nmi (fun zv132 ze132 => ?_)
          refine r_istore_n (ls2 := [(3, .int zv132), (2, .int zv105), (4, .int kk), (1, .int (fnR s1)), (0, .ref 124)]) dX11_readGate_132 (by decide) rfl ?_
          refine r_aload_n 4 rfl dX11_readGate_133 ?_
          refine r_Vf [] dX11_readGate_134 lk_X11_242 mb_X11_literalAt in_X11_literalAt se_X11_literalAt rfl (c_X11_literalAt) rfl rfl rfl (Nat.le_of_ble_eq_true rfl) (rfl) ?_
          refine r_nmi (fun zv137 ze137 => ?_)
          refine r_istore (ls2 := [(4, .int zv137), (3, .int zv132), (2, .int zv105), (1, .int (fnR s1)), (0, .ref 124)]) dX11_readGate_137 (by decide) rfl ?_
          refine r_goto (tgt := 79) dX11_readGate_139 (by decide) ?_
          rw [b2z, decide_eq_false_iff_not] at zh116
          subst ze105; subst ze137
          first
            | (rw [if_neg zh116] at hg
               subst ze132
               rw [hg] at hm2 okg hz
               exact r_sub [0, 1, 2, 3, 4] rfl (ih (z.1 ||| ((1 : Int32) <<< (kk &&& 31)), z.2.1 ||| ((1 : Int32) <<< (kk &&& 31)), nxR (D 127) L s3) okg hm2 hz))
            | (rw [if_pos (Classical.not_not.mp zh116)] at hg
               rw [hg] at hm2 okg hz
               exact r_sub [0, 1, 2, 3, 4] rfl (ih (z.1 ||| ((1 : Int32) <<< (kk &&& 31)), z.2.1, nxR (D 127) L (nxR (D 127) L s3)) okg hm2 hz))
        · refine r_aload_n 4 rfl dX11_readGate_119 ?_
          refine r_Vn [] dX11_readGate_120 lk_X11_173 mb_X11_next in_X11_next se_X11_next rfl (c_X11_next hM hL hl okn.1) rfl rfl rfl (Nat.le_of_ble_eq_true rfl) (rfl) ?_
          refine r_goto (tgt := 133) dX11_readGate_123 (by decide) ?_
          refine r_aload_n 4 rfl dX11_readGate_133 ?_
          refine r_Vf [] dX11_readGate_134 lk_X11_242 mb_X11_literalAt in_X11_literalAt se_X11_literalAt rfl (c_X11_literalAt) rfl rfl rfl (Nat.le_of_ble_eq_true rfl) (rfl) ?_
          refine r_nmi (fun zv137 ze137 => ?_)
          refine r_istore (ls2 := [(4, .int zv137), (2, .int zv105), (3, .int z.2.1), (1, .int (fnR s1)), (0, .ref 124)]) dX11_readGate_137 (by decide) rfl ?_
          refine r_goto (tgt := 79) dX11_readGate_139 (by decide) ?_
          rw [b2z, decide_eq_false_iff_not] at zh116
          subst ze105; subst ze137
          first
            | (rw [if_neg zh116] at hg
               subst ze132
               rw [hg] at hm2 okg hz
               exact r_sub [0, 2, 1, 3, 4] rfl (ih (z.1 ||| ((1 : Int32) <<< (kk &&& 31)), z.2.1 ||| ((1 : Int32) <<< (kk &&& 31)), nxR (D 127) L s3) okg hm2 hz))
            | (rw [if_pos (Classical.not_not.mp zh116)] at hg
               rw [hg] at hm2 okg hz
               exact r_sub [0, 2, 1, 3, 4] rfl (ih (z.1 ||| ((1 : Int32) <<< (kk &&& 31)), z.2.1, nxR (D 127) L (nxR (D 127) L s3)) okg hm2 hz))
      refine r_iload 0 rfl dX11_readGate_79 ?_
      refine r_iconst (v := (-1)) rfl dX11_readGate_81 ?_
      refine r_icmpeq (tgt := 142) dX11_readGate_82 (by decide) (fun zh82 => ?_) (fun zh82 => ?_)
      · rw [if_pos zh82] at hz
        subst hz
        exact j142 _ rfl _
      · refine r_iload_n 2 rfl dX11_readGate_85 ?_
        refine r_iload 0 rfl dX11_readGate_86 ?_
        refine r_Sf [.int _, .int _] dX11_readGate_88 lk_X11_114 mb_X11_bit sc_X11_bit rfl (c_X11_bit) rfl (Nat.le_of_ble_eq_true rfl) (rfl) ?_
        refine r_ifeq (tgt := 99) dX11_readGate_91 (by decide) (fun zh91 => ?_) (fun zh91 => ?_)
        · rw [b2z] at zh91
          first
            | exact j99 zh82 _ (by rw [if_neg (by simpa using zh91)])
            | exact j99 zh82 _ (by rw [if_pos (by simpa using zh91)])
        · refine r_aload_n 4 rfl dX11_readGate_94 ?_
          refine r_iconst (v := 3) rfl dX11_readGate_95 ?_
          refine r_Vn [.int _] dX11_readGate_96 lk_X11_183 mb_X11_wrong in_X11_wrong se_X11_wrong rfl (c_X11_wrong) rfl rfl rfl (Nat.le_of_ble_eq_true rfl) (rfl) ?_
          rw [b2z] at zh91
          first
            | exact j99 zh82 _ (by rw [if_neg (by simpa using zh91)])
            | exact j99 zh82 _ (by rw [if_pos (by simpa using zh91)])
  have j65 : RW X G RX11 cX11_readGate 5 (x_rm 5 0 0) n SH (laQ D s1b) (lwQ E s1b) MR 0 0 65 [(1, .int (fnR s1)), (0, .ref 124)] [] := by
    refine r_aload_n 1 rfl dX11_readGate_65 ?_
    refine r_Vn [] dX11_readGate_66 lk_X11_173 mb_X11_next in_X11_next se_X11_next rfl (c_X11_next hM hL hl ok1b.1) rfl rfl rfl (Nat.le_of_ble_eq_true rfl) (rfl) ?_
    rw [← hs2]
    refine r_iconst (v := 0) rfl dX11_readGate_69 ?_
    refine r_istore_n (ls2 := [(2, .int 0), (1, .int (fnR s1)), (0, .ref 124)]) dX11_readGate_70 (by decide) rfl ?_
    refine r_iconst (v := 0) rfl dX11_readGate_71 ?_
    refine r_istore_n (ls2 := [(3, .int 0), (2, .int 0), (1, .int (fnR s1)), (0, .ref 124)]) dX11_readGate_72 (by decide) rfl ?_
    refine r_aload_n 3 rfl dX11_readGate_73 ?_
    refine r_Vf [] dX11_readGate_74 lk_X11_242 mb_X11_literalAt in_X11_literalAt se_X11_literalAt rfl (c_X11_literalAt) rfl rfl rfl (Nat.le_of_ble_eq_true rfl) (rfl) ?_
    refine r_nmi (fun zv77 ze77 => ?_)
    refine r_istore (ls2 := [(4, .int zv77), (3, .int 0), (2, .int 0), (1, .int (fnR s1)), (0, .ref 124)]) dX11_readGate_77 (by decide) rfl ?_
    subst ze77
    exact r_sub [0, 1, 2, 3, 4] rfl (loop (L + 1) (0, 0, s2) ok2 (fun _ => by omega) hqe.symm)
  have j54 : ∀ x, x = fnR s1 → RW X G RX11 cX11_readGate 5 (x_rm 5 0 0) n SH (laQ D s1) (lwQ E s1) MR 0 0 54 [(0, .ref 124)] [.int x] := by
    intro x hx
    subst hx
    refine r_istore_n (ls2 := [(1, .int (fnR s1)), (0, .ref 124)]) dX11_readGate_54 (by decide) rfl ?_
    refine r_iload_n 0 rfl dX11_readGate_55 ?_
    refine r_iconst (v := (-1)) rfl dX11_readGate_56 ?_
    refine r_icmpne (tgt := 65) dX11_readGate_57 (by decide) (fun zh57 => ?_) (fun zh57 => ?_)
    · first
        | (rw [if_neg zh57] at hs1b; rw [hs1b] at j65; exact j65)
        | (rw [if_pos zh57] at hs1b; rw [hs1b] at j65; exact j65)
    · refine r_aload_n 1 rfl dX11_readGate_60 ?_
      refine r_iconst (v := 1) rfl dX11_readGate_61 ?_
      refine r_Vn [.int _] dX11_readGate_62 lk_X11_183 mb_X11_wrong in_X11_wrong se_X11_wrong rfl (c_X11_wrong) rfl rfl rfl (Nat.le_of_ble_eq_true rfl) (rfl) ?_
      first
        | (rw [if_neg zh57] at hs1b; rw [hs1b] at j65; exact j65)
        | (rw [if_pos zh57] at hs1b; rw [hs1b] at j65; exact j65)
  refine r_aload_n 0 rfl dX11_readGate_0 ?_
  refine r_aload_n 0 rfl dX11_readGate_1 ?_
  refine r_getr dX11_readGate_2 fl_X11_34 rfl (hM _ _ _ rfl) ?_
  refine r_bipush (v := 55) rfl dX11_readGate_5 ?_
  refine r_iald dX11_readGate_7 rfl (vpk (k := 55) (by decide) (by decide) rfl) ?_
  refine r_bipush (v := 16) rfl dX11_readGate_8 ?_
  refine r_icmpne (tgt := 17) dX11_readGate_10 (by decide) (fun zh10 => ?_) (fun zh10 => ?_)
  · refine r_iconst (v := 0) rfl dX11_readGate_17 ?_
    refine r_Vn [.int _] dX11_readGate_18 lk_X11_210 mb_X11_begins in_X11_begins se_X11_begins rfl (c_X11_begins hM hL hl ok) rfl rfl rfl (Nat.le_of_ble_eq_true rfl) (rfl) ?_
    have hb : A = 16 ↔ nI A = 16 := (nI_eq (b := 16) (by omega) (by decide)).symm
    rw [c55, e129, hAr] at zh10
    refine r_mem (MI2 := laQ D s1) (ML2 := lwQ E s1) ?_ ?_ rfl ?_
    · rw [hs1]; first | rw [if_neg (fun c => zh10 (hb.mp c)), if_pos rfl] | rw [if_pos (hb.mpr zh10), if_neg (by decide)]
    · rw [hs1]; first | rw [if_neg (fun c => zh10 (hb.mp c)), if_pos rfl] | rw [if_pos (hb.mpr zh10), if_neg (by decide)]
    refine r_aload_n 0 rfl dX11_readGate_21 ?_
    refine r_Vf [] dX11_readGate_22 lk_X11_227 mb_X11_outputAt in_X11_outputAt se_X11_outputAt rfl (c_X11_outputAt) rfl rfl rfl (Nat.le_of_ble_eq_true rfl) (rfl) ?_
    refine r_iconst (v := (-1)) rfl dX11_readGate_25 ?_
    refine r_icmpeq (tgt := 36) dX11_readGate_26 (by decide) (fun zh26 => ?_) (fun zh26 => ?_)
    · refine r_aload_n 0 rfl dX11_readGate_36 ?_
      refine r_Vf [] dX11_readGate_37 lk_X11_239 mb_X11_codeBitAt in_X11_codeBitAt se_X11_codeBitAt rfl (c_X11_codeBitAt) rfl rfl rfl (Nat.le_of_ble_eq_true rfl) (rfl) ?_
      refine r_iconst (v := (-1)) rfl dX11_readGate_40 ?_
      refine r_icmpeq (tgt := 53) dX11_readGate_41 (by decide) (fun zh41 => ?_) (fun zh41 => ?_)
      · refine r_iconst (v := (-1)) rfl dX11_readGate_53 ?_
        exact j54 _ (by unfold fnR; first | rw [if_neg zh26] | rw [if_pos zh26, if_neg zh41] | rw [if_pos zh26, if_pos zh41])
      · refine r_iconst (v := 3) rfl dX11_readGate_44 ?_
        refine r_aload_n 0 rfl dX11_readGate_45 ?_
        refine r_Vf [] dX11_readGate_46 lk_X11_239 mb_X11_codeBitAt in_X11_codeBitAt se_X11_codeBitAt rfl (c_X11_codeBitAt) rfl rfl rfl (Nat.le_of_ble_eq_true rfl) (rfl) ?_
        refine r_iadd dX11_readGate_49 ?_
        refine r_goto (tgt := 54) dX11_readGate_50 (by decide) ?_
        exact j54 _ (by unfold fnR; first | rw [if_neg zh26] | rw [if_pos zh26, if_neg zh41] | rw [if_pos zh26, if_pos zh41])
    · refine r_aload_n 0 rfl dX11_readGate_29 ?_
      refine r_Vf [] dX11_readGate_30 lk_X11_227 mb_X11_outputAt in_X11_outputAt se_X11_outputAt rfl (c_X11_outputAt) rfl rfl rfl (Nat.le_of_ble_eq_true rfl) (rfl) ?_
      refine r_goto (tgt := 54) dX11_readGate_33 (by decide) ?_
      exact j54 _ (by unfold fnR; first | rw [if_neg zh26] | rw [if_pos zh26, if_neg zh41] | rw [if_pos zh26, if_pos zh41])
  · refine r_iconst (v := 1) rfl dX11_readGate_13 ?_
    refine r_goto (tgt := 18) dX11_readGate_14 (by decide) ?_
    refine r_Vn [.int _] dX11_readGate_18 lk_X11_210 mb_X11_begins in_X11_begins se_X11_begins rfl (c_X11_begins hM hL hl ok) rfl rfl rfl (Nat.le_of_ble_eq_true rfl) (rfl) ?_
    have hb : A = 16 ↔ nI A = 16 := (nI_eq (b := 16) (by omega) (by decide)).symm
    rw [c55, e129, hAr] at zh10
    refine r_mem (MI2 := laQ D s1) (ML2 := lwQ E s1) ?_ ?_ rfl ?_
    · rw [hs1]; first | rw [if_neg (fun c => zh10 (hb.mp c)), if_pos rfl] | rw [if_pos (hb.mpr zh10), if_neg (by decide)]
    · rw [hs1]; first | rw [if_neg (fun c => zh10 (hb.mp c)), if_pos rfl] | rw [if_pos (hb.mpr zh10), if_neg (by decide)]
    refine r_aload_n 0 rfl dX11_readGate_21 ?_
    refine r_Vf [] dX11_readGate_22 lk_X11_227 mb_X11_outputAt in_X11_outputAt se_X11_outputAt rfl (c_X11_outputAt) rfl rfl rfl (Nat.le_of_ble_eq_true rfl) (rfl) ?_
    refine r_iconst (v := (-1)) rfl dX11_readGate_25 ?_
    refine r_icmpeq (tgt := 36) dX11_readGate_26 (by decide) (fun zh26 => ?_) (fun zh26 => ?_)
    · refine r_aload_n 0 rfl dX11_readGate_36 ?_
      refine r_Vf [] dX11_readGate_37 lk_X11_239 mb_X11_codeBitAt in_X11_codeBitAt se_X11_codeBitAt rfl (c_X11_codeBitAt) rfl rfl rfl (Nat.le_of_ble_eq_true rfl) (rfl) ?_
      refine r_iconst (v := (-1)) rfl dX11_readGate_40 ?_
      refine r_icmpeq (tgt := 53) dX11_readGate_41 (by decide) (fun zh41 => ?_) (fun zh41 => ?_)
      · refine r_iconst (v := (-1)) rfl dX11_readGate_53 ?_
        exact j54 _ (by unfold fnR; first | rw [if_neg zh26] | rw [if_pos zh26, if_neg zh41] | rw [if_pos zh26, if_pos zh41])
      · refine r_iconst (v := 3) rfl dX11_readGate_44 ?_
        refine r_aload_n 0 rfl dX11_readGate_45 ?_
        refine r_Vf [] dX11_readGate_46 lk_X11_239 mb_X11_codeBitAt in_X11_codeBitAt se_X11_codeBitAt rfl (c_X11_codeBitAt) rfl rfl rfl (Nat.le_of_ble_eq_true rfl) (rfl) ?_
        refine r_iadd dX11_readGate_49 ?_
        refine r_goto (tgt := 54) dX11_readGate_50 (by decide) ?_
        exact j54 _ (by unfold fnR; first | rw [if_neg zh26] | rw [if_pos zh26, if_neg zh41] | rw [if_pos zh26, if_pos zh41])
    · refine r_aload_n 0 rfl dX11_readGate_29 ?_
      refine r_Vf [] dX11_readGate_30 lk_X11_227 mb_X11_outputAt in_X11_outputAt se_X11_outputAt rfl (c_X11_outputAt) rfl rfl rfl (Nat.le_of_ble_eq_true rfl) (rfl) ?_
      refine r_goto (tgt := 54) dX11_readGate_33 (by decide) ?_
      exact j54 _ (by unfold fnR; first | rw [if_neg zh26] | rw [if_pos zh26, if_neg zh41] | rw [if_pos zh26, if_pos zh41])
/-- a line -/
def qlP (L : Nat) (z : Rs × Mi) : Rs × Mi := if z.1.2.2.2.1 = 2 ∧ z.1.2.2.2.2.2.1 = pkS 0 (x_sl' 0) then qsP L z.1 z.2 else if z.1.2.2.2.1 = 2 ∧ z.1.2.2.2.2.2.1 = pkS 1 (x_sl' 1) then qbP L z.1 z.2 else if z.1.2.2.2.1 = 2 ∧ z.1.2.2.2.2.2.1 = pkS 2 (x_sl' 2) then qaP L z.1 z.2 else if z.1.2.2.2.1 = 2 ∧ z.1.2.2.2.2.2.1 = pkS 3 (x_sl' 3) then qgP L z.1 z.2 else (wrR z.1 1, z.2)
set_option maxRecDepth 100000 in
theorem c_X11_readLine (hM : x_Lay MR) (hS2 : x_S2 X) (hL : L ≤ 600) (hl : D 124 7 = nI L) (ok : okR L s) (hD : dgI D) {z : Rs × Mi} (hz : z = qlP L (s, D)) : Cf X yX11_readLine cX11_readLine 1 none 6 [.ref 124] n SH (laQ D s) (lwQ E s) MR none (laQ z.2 z.1) (lwQ E z.1) MR := by
  refine Ct_of (by decide) (Nat.le_of_ble_eq_true rfl) (fun G hG => ?_)
  unfold qlP at hz
  refine r_aload_n 0 rfl dX11_readLine_0 ?_
  refine r_ldcS (k0 := 1001) sr_X11_186 (by decide) dX11_readLine_1 ?_
  refine r_Vf [.ref _] dX11_readLine_3 lk_X11_188 mb_X11_isWord in_X11_isWord se_X11_isWord rfl (c_X11_isWord (i := 0) hS2 (by decide)) rfl rfl rfl (Nat.le_of_ble_eq_true rfl) (rfl) ?_
  refine r_ifeq (tgt := 16) dX11_readLine_6 (by decide) (fun zh6 => ?_) (fun zh6 => ?_)
  · rw [b2z, decide_eq_false_iff_not] at zh6
    rw [if_neg zh6] at hz
    refine r_aload_n 0 rfl dX11_readLine_16 ?_
    refine r_ldcS (k0 := 1002) sr_X11_195 (by decide) dX11_readLine_17 ?_
    refine r_Vf [.ref _] dX11_readLine_19 lk_X11_188 mb_X11_isWord in_X11_isWord se_X11_isWord rfl (c_X11_isWord (i := 1) hS2 (by decide)) rfl rfl rfl (Nat.le_of_ble_eq_true rfl) (rfl) ?_
    refine r_ifeq (tgt := 32) dX11_readLine_22 (by decide) (fun zh22 => ?_) (fun zh22 => ?_)
    · rw [b2z, decide_eq_false_iff_not] at zh22
      rw [if_neg zh22] at hz
      refine r_aload_n 0 rfl dX11_readLine_32 ?_
      refine r_ldcS (k0 := 1003) sr_X11_200 (by decide) dX11_readLine_33 ?_
      refine r_Vf [.ref _] dX11_readLine_35 lk_X11_188 mb_X11_isWord in_X11_isWord se_X11_isWord rfl (c_X11_isWord (i := 2) hS2 (by decide)) rfl rfl rfl (Nat.le_of_ble_eq_true rfl) (rfl) ?_
      refine r_ifeq (tgt := 48) dX11_readLine_38 (by decide) (fun zh38 => ?_) (fun zh38 => ?_)
      · rw [b2z, decide_eq_false_iff_not] at zh38
        rw [if_neg zh38] at hz
        refine r_aload_n 0 rfl dX11_readLine_48 ?_
        refine r_ldcS (k0 := 1004) sr_X11_205 (by decide) dX11_readLine_49 ?_
        refine r_Vf [.ref _] dX11_readLine_51 lk_X11_188 mb_X11_isWord in_X11_isWord se_X11_isWord rfl (c_X11_isWord (i := 3) hS2 (by decide)) rfl rfl rfl (Nat.le_of_ble_eq_true rfl) (rfl) ?_
        refine r_ifeq (tgt := 64) dX11_readLine_54 (by decide) (fun zh54 => ?_) (fun zh54 => ?_)
        · rw [b2z, decide_eq_false_iff_not] at zh54
          rw [if_neg zh54] at hz
          refine r_aload_n 0 rfl dX11_readLine_64 ?_
          refine r_iconst (v := 1) rfl dX11_readLine_65 ?_
          refine r_Vn [.int _] dX11_readLine_66 lk_X11_183 mb_X11_wrong in_X11_wrong se_X11_wrong rfl (c_X11_wrong) rfl rfl rfl (Nat.le_of_ble_eq_true rfl) (rfl) ?_
          exact r_vret hG dX11_readLine_69 (by rw [hz]; exact ⟨rfl, rfl, rfl, rfl⟩)
        · rw [b2z, decide_eq_false_iff_not] at zh54
          rw [if_pos (Classical.not_not.mp zh54)] at hz
          refine r_aload_n 0 rfl dX11_readLine_57 ?_
          refine r_Vn [] dX11_readLine_58 lk_X11_207 mb_X11_readGate in_X11_readGate se_X11_readGate rfl (c_X11_readGate hM hL hl ok hD) rfl rfl rfl (Nat.le_of_ble_eq_true rfl) (rfl) ?_
          refine r_goto (tgt := 69) dX11_readLine_61 (by decide) ?_
          exact r_vret hG dX11_readLine_69 (by rw [hz]; exact ⟨rfl, rfl, rfl, rfl⟩)
      · rw [b2z, decide_eq_false_iff_not] at zh38
        rw [if_pos (Classical.not_not.mp zh38)] at hz
        refine r_aload_n 0 rfl dX11_readLine_41 ?_
        refine r_Vn [] dX11_readLine_42 lk_X11_202 mb_X11_readArc in_X11_readArc se_X11_readArc rfl (c_X11_readArc hM hL hl ok hD) rfl rfl rfl (Nat.le_of_ble_eq_true rfl) (rfl) ?_
        refine r_goto (tgt := 69) dX11_readLine_45 (by decide) ?_
        exact r_vret hG dX11_readLine_69 (by rw [hz]; exact ⟨rfl, rfl, rfl, rfl⟩)
    · rw [b2z, decide_eq_false_iff_not] at zh22
      rw [if_pos (Classical.not_not.mp zh22)] at hz
      refine r_aload_n 0 rfl dX11_readLine_25 ?_
      refine r_Vn [] dX11_readLine_26 lk_X11_197 mb_X11_readBegin in_X11_readBegin se_X11_readBegin rfl (c_X11_readBegin hM hL hl ok) rfl rfl rfl (Nat.le_of_ble_eq_true rfl) (rfl) ?_
      refine r_goto (tgt := 69) dX11_readLine_29 (by decide) ?_
      exact r_vret hG dX11_readLine_69 (by rw [hz]; exact ⟨rfl, rfl, rfl, rfl⟩)
  · rw [b2z, decide_eq_false_iff_not] at zh6
    rw [if_pos (Classical.not_not.mp zh6)] at hz
    refine r_aload_n 0 rfl dX11_readLine_9 ?_
    refine r_Vn [] dX11_readLine_10 lk_X11_192 mb_X11_readState in_X11_readState se_X11_readState rfl (c_X11_readState hM hL hl ok hD) rfl rfl rfl (Nat.le_of_ble_eq_true rfl) (rfl) ?_
    refine r_goto (tgt := 69) dX11_readLine_13 (by decide) ?_
    exact r_vret hG dX11_readLine_69 (by rw [hz]; exact ⟨rfl, rfl, rfl, rfl⟩)
end rlines

/-! the reference: BAD 5 and 6; looks -/
def lyA1 (I O C : Nat → Int32) (f t b : Int32) : Nat → Dp → Dp
  | 0, q => q
  | k + 1, q => if nI k &&& (b ^^^ -1) = 0 then demW (lyA1 I O C f t b k q) (if nI k = b then valV O C t else valV O C f) (ptL (pointV I C f ^^^ nI k)) else lyA1 I O C f t b k q
def lyA2 (I O C : Nat → Int32) (f t : Int32) : Nat → Dp → Dp
  | 0, q => q
  | k + 1, q => if nI k &&& ((pickV C 6 f ^^^ pickV C 6 t) ^^^ -1) = 0 then demW (lyA2 I O C f t k q) (valV O C t) (ptL (pointV I C t ^^^ (nI k <<< ((4 : Int32) &&& 31)))) else lyA2 I O C f t k q
def lyA (I O C : Nat → Int32) (f t b : Int32) (q : Dp) : Dp := lyA2 I O C f t 4 (lyA1 I O C f t b 16 q)
def unP (I O C : Nat → Int32) (s o : Nat) : Bool := decide (pointV I C (nI o) = pointV I C (nI s)) && decide (¬ O o = O s)
def unlO (I O C : Nat → Int32) (S : Nat) : Option Nat := (List.range S).find? (fun s => (List.range s).any (unP I O C s))
def stL (I O C : Nat → Int32) : Nat → Dp → Dp
  | 0, q => q
  | k + 1, q => demS I O C (nI k) (stL I O C k q)
def clL (f : Nat → Dp → Dp) : Nat → Nat → Dp → Dp × Option Nat
  | 0, _, q => (q, none)
  | k + 1, i, q => if clashV (f i q).1 (f i q).2 = true then (f i q, some i) else clL f k (i + 1) (f i q)
def clA (I O C : Nat → Int32) (P : Nat → Nat → Int32) (S A : Nat) (q : Dp) : Dp × Option Nat := clL (fun i => lyA I O C (P i 0) (P i 1) (P i 2 ||| P i 3)) A 0 (stL I O C S (zDp q))
def lcT (C : Nat → Int32) (P : Nat → Nat → Int32) (S A : Nat) (q : Dp) (t : Tg) : Dp × Tg := match unlO t.2.1 t.2.2.1 C S with
  | some s => (q, spT t 5 (nI s))
  | none => ((clA t.2.1 t.2.2.1 C P S A q).1, match (clA t.2.1 t.2.2.1 C P S A q).2 with
    | some i => spT t 6 (nI i)
    | none => t)
section rcodes
variable {X : xG} {n : Nat} {MI : Nat → Nat → Int32} {ML : Nat → Nat → Int64} {MR : Nat → Nat → Option Nat}
theorem s_lays (hM : x_Lay MR) {q : Dp} {p v : Int32} : Cf X yX11_lays cX11_lays 4 none 2 [.ref 124, .int p, .int v] n SH MI (layD ML 138 137 q) MR none MI (layD ML 138 137 (demW q v (ptL p))) MR := by
  refine Ct_of (by decide) (Nat.le_of_ble_eq_true rfl) (fun G hG => ?_)
  obtain ⟨P, hP⟩ : ∃ P, P = ptL p := ⟨_, rfl⟩
  rw [← hP] at hG
  have loop : ∀ i, i ≤ 5 → RW X G RX11 cX11_lays 4 (x_rm 2 0 0) n SH MI (layD ML 138 137 (wantZ q.1 v P i, wantO q.2 v P i)) MR 0 0 2 [(3, .int (nI i)), (0, .ref 124), (1, .int p), (2, .int v)] [] := by
    refine bwd (fun i hi ih => ?_)
    refine r_iload_n 0 rfl dX11_lays_2 ?_
    refine r_iconst (v := 5) rfl dX11_lays_3 ?_
    refine r_icmpge (tgt := 48) dX11_lays_4 (by decide) (fun zh4 => ?_) (fun zh4 => ?_)
    · obtain rfl : i = 5 := by have := geL (k := 5) (by decide) (by omega) zh4; omega
      exact r_vret hG dX11_lays_48 (⟨rfl, rfl, rfl, rfl⟩)
    · have hlt : i < 5 := ltL (by omega) zh4
      refine r_iload_n 3 rfl dX11_lays_7 ?_
      refine r_iload_n 0 rfl dX11_lays_8 ?_
      refine r_Sf [.int _, .int _] dX11_lays_9 lk_X11_114 mb_X11_bit sc_X11_bit rfl (c_X11_bit) rfl (Nat.le_of_ble_eq_true rfl) (rfl) ?_
      refine r_ifeq (tgt := 30) dX11_lays_12 (by decide) (fun zh12 => ?_) (fun zh12 => ?_)
      · refine r_aload_n 1 rfl dX11_lays_30 ?_
        refine r_getr dX11_lays_31 fl_X11_62 rfl (hM _ _ _ rfl) ?_
        refine r_iload_n 0 rfl dX11_lays_34 ?_
        refine r_dup2 rfl rfl dX11_lays_35 ?_
        refine r_lald dX11_lays_36 rfl (vp_in_nI hlt (by decide)) ?_
        refine r_lconst (v := 1) rfl dX11_lays_37 ?_
        refine r_iload_n 2 rfl dX11_lays_38 ?_
        refine r_lshl dX11_lays_39 ?_
        refine r_lor dX11_lays_40 ?_
        refine r_last dX11_lays_41 rfl (vp_in_nI hlt (by decide)) ?_
        refine r_iinc (v := (nI (i + 1))) (ls2 := [(3, .int (nI (i + 1))), (0, .ref 124), (1, .int p), (2, .int v)]) 0 dX11_lays_42 rfl (x_inc i) (by decide) rfl ?_
        refine r_goto (tgt := 2) dX11_lays_45 (by decide) ?_
        refine r_mem rfl ?_ rfl (ih hlt)
        rw [b2z, bitR_Z] at zh12
        have hb : bitZ v i = true ∨ bitZ v i = false := by cases bitZ v i <;> simp
        rw [nI_clamp (by omega), show (1 : Int64) <<< (p.toInt64 &&& 63) = P from hP.symm]
        clear ih hG hP
        funext b k
        simp only [u2, layD, sr, wantZ, wantO]
        grind
      · refine r_aload_n 1 rfl dX11_lays_15 ?_
        refine r_getr dX11_lays_16 fl_X11_59 rfl (hM _ _ _ rfl) ?_
        refine r_iload_n 0 rfl dX11_lays_19 ?_
        refine r_dup2 rfl rfl dX11_lays_20 ?_
        refine r_lald dX11_lays_21 rfl (vp_in_nI hlt (by decide)) ?_
        refine r_lconst (v := 1) rfl dX11_lays_22 ?_
        refine r_iload_n 2 rfl dX11_lays_23 ?_
        refine r_lshl dX11_lays_24 ?_
        refine r_lor dX11_lays_25 ?_
        refine r_last dX11_lays_26 rfl (vp_in_nI hlt (by decide)) ?_
        refine r_goto (tgt := 42) dX11_lays_27 (by decide) ?_
        refine r_iinc (v := (nI (i + 1))) (ls2 := [(3, .int (nI (i + 1))), (0, .ref 124), (1, .int p), (2, .int v)]) 0 dX11_lays_42 rfl (x_inc i) (by decide) rfl ?_
        refine r_goto (tgt := 2) dX11_lays_45 (by decide) ?_
        refine r_mem rfl ?_ rfl (ih hlt)
        rw [b2z, bitR_Z] at zh12
        have hb : bitZ v i = true ∨ bitZ v i = false := by cases bitZ v i <;> simp
        rw [nI_clamp (by omega), show (1 : Int64) <<< (p.toInt64 &&& 63) = P from hP.symm]
        clear ih hG hP
        funext b k
        simp only [u2, layD, sr, wantZ, wantO]
        grind
  refine r_iconst (v := 0) rfl dX11_lays_0 ?_
  refine r_istore_n (ls2 := [(3, .int 0), (0, .ref 124), (1, .int p), (2, .int v)]) dX11_lays_1 (by decide) rfl ?_
  refine r_mem rfl ?_ rfl (loop 0 (by decide))
  funext b k
  simp only [layD, sr, wantZ, wantO]
  grind
theorem s_clashes (hM : x_Lay MR) {q : Dp} : Cf X yX11_clashes cX11_clashes 2 (some .boolean) 1 [.ref 124] n SH MI (layD ML 138 137 q) MR (some (.int (b2 (clashV q.1 q.2)))) MI (layD ML 138 137 q) MR := by
  refine Ct_of (by decide) (Nat.le_of_ble_eq_true rfl) (fun G hG => ?_)
  have e7 : layD ML 138 137 q 137 = q.2 := layD_o q
  have e8 : layD ML 138 137 q 138 = q.1 := layD_z (by decide) q
  have loop : ∀ i, i ≤ 5 → (∀ k, k < i → q.1 k &&& q.2 k = 0) → RW X G RX11 cX11_clashes 2 (x_rm 1 0 0) n SH MI (layD ML 138 137 q) MR 0 0 2 [(1, .int (nI i)), (0, .ref 124)] [] := by
    refine bwd (fun i hi ih hk => ?_)
    refine r_iload_n 0 rfl dX11_clashes_2 ?_
    refine r_iconst (v := 5) rfl dX11_clashes_3 ?_
    refine r_icmpge (tgt := 33) dX11_clashes_4 (by decide) (fun zh4 => ?_) (fun zh4 => ?_)
    · have zh5 := geL (k := 5) (by decide) (by omega) zh4
      refine r_iconst (v := 0) rfl dX11_clashes_33 ?_
      exact r_zret hG dX11_clashes_34 (rfl) (⟨by rw [show clashV q.1 q.2 = false from Bool.eq_false_iff.mpr (fun z => by obtain ⟨k, hk1, hk2⟩ := clashV_t.mp z; exact hk2 (hk k (by omega)))]; rfl, rfl, rfl, rfl⟩)
    · have hlt : i < 5 := ltL (by omega) zh4
      refine r_aload_n 1 rfl dX11_clashes_7 ?_
      refine r_getr dX11_clashes_8 fl_X11_59 rfl (hM _ _ _ rfl) ?_
      refine r_iload_n 0 rfl dX11_clashes_11 ?_
      refine r_lald dX11_clashes_12 rfl (vp_in_nI hlt (by decide)) ?_
      refine r_aload_n 1 rfl dX11_clashes_13 ?_
      refine r_getr dX11_clashes_14 fl_X11_62 rfl (hM _ _ _ rfl) ?_
      refine r_iload_n 0 rfl dX11_clashes_17 ?_
      refine r_lald dX11_clashes_18 rfl (vp_in_nI hlt (by decide)) ?_
      refine r_land dX11_clashes_19 ?_
      refine r_lconst (v := 0) rfl dX11_clashes_20 ?_
      refine r_lcmp dX11_clashes_21 ?_
      refine r_ifeq (tgt := 27) dX11_clashes_22 (by decide) (fun zh22 => ?_) (fun zh22 => ?_)
      · rw [lcmp_eq, nI_clamp (by omega), e7, e8, Int64.and_comm] at zh22
        refine r_iinc (v := (nI (i + 1))) (ls2 := [(1, .int (nI (i + 1))), (0, .ref 124)]) 0 dX11_clashes_27 rfl (x_inc i) (by decide) rfl ?_
        refine r_goto (tgt := 2) dX11_clashes_30 (by decide) ?_
        refine ih hlt (fun k hk2 => ?_)
        rcases Nat.lt_or_ge k i with z | z
        · exact hk k z
        · obtain rfl : k = i := by omega
          exact zh22
      · rw [lcmp_eq, nI_clamp (by omega), e7, e8, Int64.and_comm] at zh22
        refine r_iconst (v := 1) rfl dX11_clashes_25 ?_
        exact r_zret hG dX11_clashes_26 (rfl) (⟨by rw [show clashV q.1 q.2 = true from clashV_t.mpr ⟨i, hlt, zh22⟩]; rfl, rfl, rfl, rfl⟩)
  refine r_iconst (v := 0) rfl dX11_clashes_0 ?_
  refine r_istore_n (ls2 := [(1, .int 0), (0, .ref 124)]) dX11_clashes_1 (by decide) rfl ?_
  exact loop 0 (by decide) (fun k hk => absurd hk (Nat.not_lt_zero k))
theorem s_laysArc (hM : x_Lay MR) {A S i : Nat} (hA : A ≤ 8) (hS : S ≤ 6) (hP : okA (arR MI) A S) (hi : i < A) {q : Dp} : Cf X yX11_laysArc cX11_laysArc 7 none 3 [.ref 124, .int (nI i)] n SH MI (layD ML 138 137 q) MR none MI (layD ML 138 137 (lyA (MI 135) (MI 136) (MI 128) (arR MI i 0) (arR MI i 1) (arR MI i 2 ||| arR MI i 3) q)) MR := by
  refine Ct_of (by decide) (Nat.le_of_ble_eq_true rfl) (fun G hG => ?_)
  obtain ⟨⟨f, hf, hfe⟩, ⟨g, hg, hge⟩⟩ := hP i hi
  obtain ⟨b, hb⟩ : ∃ b, b = arR MI i 2 ||| arR MI i 3 := ⟨_, rfl⟩
  rw [hfe, hge, ← hb] at hG
  have hi8 : i < 8 := by omega
  have pf : pickV (MI 128) 6 (nI f) = MI 128 f := pickV_nI _ (by omega) (by decide)
  have pg : pickV (MI 128) 6 (nI g) = MI 128 g := pickV_nI _ (by omega) (by decide)
  have l2 : ∀ k, k ≤ 4 → RW X G RX11 cX11_laysArc 7 (x_rm 3 0 0) n SH MI (layD ML 138 137 (lyA2 (MI 135) (MI 136) (MI 128) (nI f) (nI g) k (lyA1 (MI 135) (MI 136) (MI 128) (nI f) (nI g) b 16 q))) MR 0 0 95 [(6, .int (nI k)), (5, .int (MI 128 f ^^^ MI 128 g)), (4, .int b), (3, .int (nI g)), (2, .int (nI f)), (1, .int (nI i)), (0, .ref 124)] [] := by
    refine bwd (fun k hk ih => ?_)
    refine r_iload 0 rfl dX11_laysArc_95 ?_
    refine r_iconst (v := 4) rfl dX11_laysArc_97 ?_
    refine r_icmpge (tgt := 136) dX11_laysArc_98 (by decide) (fun zh98 => ?_) (fun zh98 => ?_)
    · obtain rfl : k = 4 := by have := geL (k := 4) (by decide) (by omega) zh98; omega
      exact r_vret hG dX11_laysArc_136 (⟨rfl, rfl, rfl, rfl⟩)
    · have hlt : k < 4 := ltL (by omega) zh98
      have zq := ih hlt
      rw [lyA2, pf, pg] at zq
      refine r_iload 0 rfl dX11_laysArc_101 ?_
      refine r_iload 1 rfl dX11_laysArc_103 ?_
      refine r_iconst (v := (-1)) rfl dX11_laysArc_105 ?_
      refine r_ixor dX11_laysArc_106 ?_
      refine r_iand dX11_laysArc_107 ?_
      refine r_ifne (tgt := 130) dX11_laysArc_108 (by decide) (fun zh108 => ?_) (fun zh108 => ?_)
      · refine r_iinc (v := (nI (k + 1))) (ls2 := [(6, .int (nI (k + 1))), (5, .int (MI 128 f ^^^ MI 128 g)), (4, .int b), (3, .int (nI g)), (2, .int (nI f)), (1, .int (nI i)), (0, .ref 124)]) 0 dX11_laysArc_130 rfl (x_inc k) (by decide) rfl ?_
        refine r_goto (tgt := 95) dX11_laysArc_133 (by decide) ?_
        first
          | (rw [if_neg zh108] at zq; exact zq)
          | (rw [if_pos zh108] at zq; exact zq)
      · refine r_aload_n 6 rfl dX11_laysArc_111 ?_
        refine r_aload_n 6 rfl dX11_laysArc_112 ?_
        refine r_iload_n 3 rfl dX11_laysArc_113 ?_
        refine r_Vf [.int _] dX11_laysArc_114 lk_X11_313 mb_X11_pointOf in_X11_pointOf se_X11_pointOf rfl (c_X11_pointOf hM (show g < 6 by omega)) rfl rfl rfl (Nat.le_of_ble_eq_true rfl) (rfl) ?_
        refine r_iload 0 rfl dX11_laysArc_117 ?_
        refine r_iconst (v := 4) rfl dX11_laysArc_119 ?_
        refine r_ishl dX11_laysArc_120 ?_
        refine r_ixor dX11_laysArc_121 ?_
        refine r_aload_n 6 rfl dX11_laysArc_122 ?_
        refine r_iload_n 3 rfl dX11_laysArc_123 ?_
        refine r_Vf [.int _] dX11_laysArc_124 lk_X11_316 mb_X11_wants in_X11_wants se_X11_wants rfl (c_X11_wants hM (show g < 6 by omega)) rfl rfl rfl (Nat.le_of_ble_eq_true rfl) (rfl) ?_
        refine r_Vn [.int _, .int _] dX11_laysArc_127 lk_X11_319 mb_X11_lays in_X11_lays se_X11_lays rfl (s_lays hM) rfl rfl rfl (Nat.le_of_ble_eq_true rfl) (rfl) ?_
        refine r_iinc (v := (nI (k + 1))) (ls2 := [(6, .int (nI (k + 1))), (5, .int (MI 128 f ^^^ MI 128 g)), (4, .int b), (3, .int (nI g)), (2, .int (nI f)), (1, .int (nI i)), (0, .ref 124)]) 0 dX11_laysArc_130 rfl (x_inc k) (by decide) rfl ?_
        refine r_goto (tgt := 95) dX11_laysArc_133 (by decide) ?_
        first
          | (rw [if_neg zh108] at zq; exact zq)
          | (rw [if_pos zh108] at zq; exact zq)
  have l1 : ∀ k, k ≤ 16 → RW X G RX11 cX11_laysArc 7 (x_rm 3 0 0) n SH MI (layD ML 138 137 (lyA1 (MI 135) (MI 136) (MI 128) (nI f) (nI g) b k q)) MR 0 0 24 [(5, .int (nI k)), (4, .int b), (3, .int (nI g)), (2, .int (nI f)), (1, .int (nI i)), (0, .ref 124)] [] := by
    refine bwd (fun k hk ih => ?_)
    refine r_iload 0 rfl dX11_laysArc_24 ?_
    refine r_bipush (v := 16) rfl dX11_laysArc_26 ?_
    refine r_icmpge (tgt := 79) dX11_laysArc_28 (by decide) (fun zh28 => ?_) (fun zh28 => ?_)
    · obtain rfl : k = 16 := by have := geL (k := 16) (by decide) (by omega) zh28; omega
      refine r_aload_n 5 rfl dX11_laysArc_79 ?_
      refine r_iload_n 3 rfl dX11_laysArc_80 ?_
      refine r_Vf [.int _] dX11_laysArc_81 lk_X11_310 mb_X11_codeOf in_X11_codeOf se_X11_codeOf rfl (c_X11_codeOf hM (show f < 6 by omega)) rfl rfl rfl (Nat.le_of_ble_eq_true rfl) (rfl) ?_
      refine r_aload_n 5 rfl dX11_laysArc_84 ?_
      refine r_iload_n 2 rfl dX11_laysArc_85 ?_
      refine r_Vf [.int _] dX11_laysArc_86 lk_X11_310 mb_X11_codeOf in_X11_codeOf se_X11_codeOf rfl (c_X11_codeOf hM (show g < 6 by omega)) rfl rfl rfl (Nat.le_of_ble_eq_true rfl) (rfl) ?_
      refine r_ixor dX11_laysArc_89 ?_
      refine r_istore (ls2 := [(5, .int (MI 128 f ^^^ MI 128 g)), (4, .int b), (3, .int (nI g)), (2, .int (nI f)), (1, .int (nI i)), (0, .ref 124)]) dX11_laysArc_90 (by decide) rfl ?_
      refine r_iconst (v := 0) rfl dX11_laysArc_92 ?_
      refine r_istore (ls2 := [(6, .int 0), (5, .int (MI 128 f ^^^ MI 128 g)), (4, .int b), (3, .int (nI g)), (2, .int (nI f)), (1, .int (nI i)), (0, .ref 124)]) dX11_laysArc_93 (by decide) rfl ?_
      exact r_sub [0, 1, 2, 3, 4, 5, 6] rfl (l2 0 (by decide))
    · have hlt : k < 16 := ltL (by omega) zh28
      have zq := ih hlt
      rw [lyA1] at zq
      refine r_iload 0 rfl dX11_laysArc_31 ?_
      refine r_iload 1 rfl dX11_laysArc_33 ?_
      refine r_iconst (v := (-1)) rfl dX11_laysArc_35 ?_
      refine r_ixor dX11_laysArc_36 ?_
      refine r_iand dX11_laysArc_37 ?_
      refine r_ifne (tgt := 73) dX11_laysArc_38 (by decide) (fun zh38 => ?_) (fun zh38 => ?_)
      · refine r_iinc (v := (nI (k + 1))) (ls2 := [(5, .int (nI (k + 1))), (4, .int b), (3, .int (nI g)), (2, .int (nI f)), (1, .int (nI i)), (0, .ref 124)]) 0 dX11_laysArc_73 rfl (x_inc k) (by decide) rfl ?_
        refine r_goto (tgt := 24) dX11_laysArc_76 (by decide) ?_
        first
          | (rw [if_neg zh38] at zq; exact zq)
          | (rw [if_pos zh38, if_neg zh54] at zq; exact zq)
          | (rw [if_pos zh38, if_pos zh54] at zq; exact zq)
      · refine r_aload_n 5 rfl dX11_laysArc_41 ?_
        refine r_aload_n 5 rfl dX11_laysArc_42 ?_
        refine r_iload_n 3 rfl dX11_laysArc_43 ?_
        refine r_Vf [.int _] dX11_laysArc_44 lk_X11_313 mb_X11_pointOf in_X11_pointOf se_X11_pointOf rfl (c_X11_pointOf hM (show f < 6 by omega)) rfl rfl rfl (Nat.le_of_ble_eq_true rfl) (rfl) ?_
        refine r_iload 0 rfl dX11_laysArc_47 ?_
        refine r_ixor dX11_laysArc_49 ?_
        refine r_iload 0 rfl dX11_laysArc_50 ?_
        refine r_iload 1 rfl dX11_laysArc_52 ?_
        refine r_icmpne (tgt := 65) dX11_laysArc_54 (by decide) (fun zh54 => ?_) (fun zh54 => ?_)
        · refine r_aload_n 5 rfl dX11_laysArc_65 ?_
          refine r_iload_n 3 rfl dX11_laysArc_66 ?_
          refine r_Vf [.int _] dX11_laysArc_67 lk_X11_316 mb_X11_wants in_X11_wants se_X11_wants rfl (c_X11_wants hM (show f < 6 by omega)) rfl rfl rfl (Nat.le_of_ble_eq_true rfl) (rfl) ?_
          refine r_Vn [.int _, .int _] dX11_laysArc_70 lk_X11_319 mb_X11_lays in_X11_lays se_X11_lays rfl (s_lays hM) rfl rfl rfl (Nat.le_of_ble_eq_true rfl) (rfl) ?_
          refine r_iinc (v := (nI (k + 1))) (ls2 := [(5, .int (nI (k + 1))), (4, .int b), (3, .int (nI g)), (2, .int (nI f)), (1, .int (nI i)), (0, .ref 124)]) 0 dX11_laysArc_73 rfl (x_inc k) (by decide) rfl ?_
          refine r_goto (tgt := 24) dX11_laysArc_76 (by decide) ?_
          first
            | (rw [if_neg zh38] at zq; exact zq)
            | (rw [if_pos zh38, if_neg zh54] at zq; exact zq)
            | (rw [if_pos zh38, if_pos zh54] at zq; exact zq)
        · refine r_aload_n 5 rfl dX11_laysArc_57 ?_
          refine r_iload_n 2 rfl dX11_laysArc_58 ?_
          refine r_Vf [.int _] dX11_laysArc_59 lk_X11_316 mb_X11_wants in_X11_wants se_X11_wants rfl (c_X11_wants hM (show g < 6 by omega)) rfl rfl rfl (Nat.le_of_ble_eq_true rfl) (rfl) ?_
          refine r_goto (tgt := 70) dX11_laysArc_62 (by decide) ?_
          refine r_Vn [.int _, .int _] dX11_laysArc_70 lk_X11_319 mb_X11_lays in_X11_lays se_X11_lays rfl (s_lays hM) rfl rfl rfl (Nat.le_of_ble_eq_true rfl) (rfl) ?_
          refine r_iinc (v := (nI (k + 1))) (ls2 := [(5, .int (nI (k + 1))), (4, .int b), (3, .int (nI g)), (2, .int (nI f)), (1, .int (nI i)), (0, .ref 124)]) 0 dX11_laysArc_73 rfl (x_inc k) (by decide) rfl ?_
          refine r_goto (tgt := 24) dX11_laysArc_76 (by decide) ?_
          first
            | (rw [if_neg zh38] at zq; exact zq)
            | (rw [if_pos zh38, if_neg zh54] at zq; exact zq)
            | (rw [if_pos zh38, if_pos zh54] at zq; exact zq)
  refine r_aload_n 0 rfl dX11_laysArc_0 ?_
  refine r_iload_n 1 rfl dX11_laysArc_1 ?_
  refine r_iconst (v := 0) rfl dX11_laysArc_2 ?_
  refine r_Vf [.int _, .int _] dX11_laysArc_3 lk_X11_270 mb_X11_arcOf in_X11_arcOf se_X11_arcOf rfl (c_X11_arcOf (j := 0) hM hi8 (by decide)) rfl rfl rfl (Nat.le_of_ble_eq_true rfl) (rfl) ?_
  rw [hfe]
  refine r_istore_n (ls2 := [(2, .int (nI f)), (0, .ref 124), (1, .int (nI i))]) dX11_laysArc_6 (by decide) rfl ?_
  refine r_aload_n 1 rfl dX11_laysArc_7 ?_
  refine r_iload_n 2 rfl dX11_laysArc_8 ?_
  refine r_iconst (v := 1) rfl dX11_laysArc_9 ?_
  refine r_Vf [.int _, .int _] dX11_laysArc_10 lk_X11_270 mb_X11_arcOf in_X11_arcOf se_X11_arcOf rfl (c_X11_arcOf (j := 1) hM hi8 (by decide)) rfl rfl rfl (Nat.le_of_ble_eq_true rfl) (rfl) ?_
  rw [hge]
  refine r_istore_n (ls2 := [(3, .int (nI g)), (2, .int (nI f)), (0, .ref 124), (1, .int (nI i))]) dX11_laysArc_13 (by decide) rfl ?_
  refine r_aload_n 2 rfl dX11_laysArc_14 ?_
  refine r_iload_n 3 rfl dX11_laysArc_15 ?_
  refine r_Vf [.int _] dX11_laysArc_16 lk_X11_307 mb_X11_changed in_X11_changed se_X11_changed rfl (c_X11_changed hM hi8) rfl rfl rfl (Nat.le_of_ble_eq_true rfl) (rfl) ?_
  rw [← hb]
  refine r_istore (ls2 := [(4, .int b), (3, .int (nI g)), (2, .int (nI f)), (0, .ref 124), (1, .int (nI i))]) dX11_laysArc_19 (by decide) rfl ?_
  refine r_iconst (v := 0) rfl dX11_laysArc_21 ?_
  refine r_istore (ls2 := [(5, .int 0), (4, .int b), (3, .int (nI g)), (2, .int (nI f)), (0, .ref 124), (1, .int (nI i))]) dX11_laysArc_22 (by decide) rfl ?_
  exact r_sub [0, 1, 2, 3, 5, 4] rfl (l1 0 (by decide))
theorem s_unlikeState (hM : x_Lay MR) {S : Nat} (hS : S ≤ 6) (hSr : MI 130 0 = nI S) : Cf X yX11_unlikeState cX11_unlikeState 3 (some .int) 3 [.ref 124] n SH MI ML MR (some (.int (optI (unlO (MI 135) (MI 136) (MI 128) S)))) MI ML MR := by
  refine Ct_of (by decide) (Nat.le_of_ble_eq_true rfl) (fun G hG => ?_)
  have c0 : (0 : Int32).toNatClampNeg = 0 := rfl
  have any_f : ∀ s k, k = s → (∀ o, o < k → unP (MI 135) (MI 136) (MI 128) s o = false) → (List.range s).any (unP (MI 135) (MI 136) (MI 128) s) = false := fun s k e h => by
    rw [List.any_eq_false]
    intro o ho
    rw [h o (by rw [e]; exact List.mem_range.mp ho)]
    decide
  have loop : ∀ i, i ≤ S → (∀ k, k < i → (List.range k).any (unP (MI 135) (MI 136) (MI 128) k) = false) → RW X G RX11 cX11_unlikeState 3 (x_rm 3 0 0) n SH MI ML MR 0 0 2 [(1, .int (nI i)), (0, .ref 124)] [] := by
    refine bwd (fun i hi ih hk => ?_)
    have hsome : i < S → ∀ o, o < i → unP (MI 135) (MI 136) (MI 128) i o = true → unlO (MI 135) (MI 136) (MI 128) S = some i := fun hlt o ho hu => by
      unfold unlO
      rw [List.find?_range_eq_some]
      exact ⟨List.any_eq_true.mpr ⟨o, List.mem_range.mpr ho, hu⟩, List.mem_range.mpr hlt, fun k hk2 => by rw [hk k hk2]; rfl⟩
    have hnone : i = S → unlO (MI 135) (MI 136) (MI 128) S = none := fun e => by
      unfold unlO
      rw [List.find?_eq_none]
      intro k hk2
      rw [hk k (by rw [e]; exact List.mem_range.mp hk2)]
      decide
    have inner : i < S → ∀ o, o ≤ i → (∀ k, k < o → unP (MI 135) (MI 136) (MI 128) i k = false) → RW X G RX11 cX11_unlikeState 3 (x_rm 3 0 0) n SH MI ML MR 0 0 14 [(2, .int (nI o)), (1, .int (nI i)), (0, .ref 124)] [] := by
      intro hlt
      refine bwd (fun o ho iho hko => ?_)
      have hstp : unP (MI 135) (MI 136) (MI 128) i o = false → ∀ k, k < o + 1 → unP (MI 135) (MI 136) (MI 128) i k = false := fun h k hk2 => by
        rcases Nat.lt_or_ge k o with z | z
        · exact hko k z
        · obtain rfl : k = o := by omega
          exact h
      refine r_iload_n 0 rfl dX11_unlikeState_14 ?_
      refine r_iload_n 1 rfl dX11_unlikeState_15 ?_
      refine r_icmpge (tgt := 55) dX11_unlikeState_16 (by decide) (fun zh16 => ?_) (fun zh16 => ?_)
      · have hoe : o = i := by have := geL (k := i) (by omega) (by omega) zh16; omega
        refine r_iinc (v := (nI (i + 1))) (ls2 := [(1, .int (nI (i + 1))), (2, .int (nI o)), (0, .ref 124)]) 1 dX11_unlikeState_55 rfl (x_inc i) (by decide) rfl ?_
        refine r_goto (tgt := 2) dX11_unlikeState_58 (by decide) ?_
        refine r_sub [0, 2] rfl (ih hlt (fun k hk2 => ?_))
        rcases Nat.lt_or_ge k i with z | z
        · exact hk k z
        · obtain rfl : k = i := by omega
          exact any_f _ o hoe hko
      · have hol : o < i := ltL (by omega) zh16
        refine r_aload_n 2 rfl dX11_unlikeState_19 ?_
        refine r_iload_n 0 rfl dX11_unlikeState_20 ?_
        refine r_Vf [.int _] dX11_unlikeState_21 lk_X11_313 mb_X11_pointOf in_X11_pointOf se_X11_pointOf rfl (c_X11_pointOf hM (show o < 6 by omega)) rfl rfl rfl (Nat.le_of_ble_eq_true rfl) (rfl) ?_
        refine r_aload_n 2 rfl dX11_unlikeState_24 ?_
        refine r_iload_n 1 rfl dX11_unlikeState_25 ?_
        refine r_Vf [.int _] dX11_unlikeState_26 lk_X11_313 mb_X11_pointOf in_X11_pointOf se_X11_pointOf rfl (c_X11_pointOf hM (show i < 6 by omega)) rfl rfl rfl (Nat.le_of_ble_eq_true rfl) (rfl) ?_
        refine r_icmpne (tgt := 49) dX11_unlikeState_29 (by decide) (fun zh29 => ?_) (fun zh29 => ?_)
        · try rw [nI_clamp (by omega), nI_clamp (by omega)] at zh44
          refine r_iinc (v := (nI (o + 1))) (ls2 := [(2, .int (nI (o + 1))), (1, .int (nI i)), (0, .ref 124)]) 0 dX11_unlikeState_49 rfl (x_inc o) (by decide) rfl ?_
          refine r_goto (tgt := 14) dX11_unlikeState_52 (by decide) ?_
          first
            | (have zf : unP (MI 135) (MI 136) (MI 128) i o = false := by unfold unP; rw [show decide (¬ MI 136 o = MI 136 i) = false from decide_eq_false (fun z => z zh44)]; exact Bool.and_false _
               exact iho hol (hstp zf))
            | (have zf : unP (MI 135) (MI 136) (MI 128) i o = false := by unfold unP; rw [decide_eq_false zh29]; rfl
               exact iho hol (hstp zf))
        · refine r_aload_n 2 rfl dX11_unlikeState_32 ?_
          refine r_getr dX11_unlikeState_33 fl_X11_56 rfl (hM _ _ _ rfl) ?_
          refine r_iload_n 0 rfl dX11_unlikeState_36 ?_
          refine r_iald dX11_unlikeState_37 rfl (vp_in_nI (show o < 6 by omega) (by decide)) ?_
          refine r_aload_n 2 rfl dX11_unlikeState_38 ?_
          refine r_getr dX11_unlikeState_39 fl_X11_56 rfl (hM _ _ _ rfl) ?_
          refine r_iload_n 1 rfl dX11_unlikeState_42 ?_
          refine r_iald dX11_unlikeState_43 rfl (vp_in_nI (show i < 6 by omega) (by decide)) ?_
          refine r_icmpeq (tgt := 49) dX11_unlikeState_44 (by decide) (fun zh44 => ?_) (fun zh44 => ?_)
          · try rw [nI_clamp (by omega), nI_clamp (by omega)] at zh44
            refine r_iinc (v := (nI (o + 1))) (ls2 := [(2, .int (nI (o + 1))), (1, .int (nI i)), (0, .ref 124)]) 0 dX11_unlikeState_49 rfl (x_inc o) (by decide) rfl ?_
            refine r_goto (tgt := 14) dX11_unlikeState_52 (by decide) ?_
            first
              | (have zf : unP (MI 135) (MI 136) (MI 128) i o = false := by unfold unP; rw [show decide (¬ MI 136 o = MI 136 i) = false from decide_eq_false (fun z => z zh44)]; exact Bool.and_false _
                 exact iho hol (hstp zf))
              | (have zf : unP (MI 135) (MI 136) (MI 128) i o = false := by unfold unP; rw [decide_eq_false zh29]; rfl
                 exact iho hol (hstp zf))
          · rw [nI_clamp (by omega), nI_clamp (by omega)] at zh44
            refine r_iload_n 1 rfl dX11_unlikeState_47 ?_
            exact r_iret hG dX11_unlikeState_48 (⟨by rw [hsome hlt o hol (by unfold unP; rw [decide_eq_true zh29, decide_eq_true zh44]; rfl)]; rfl, rfl, rfl, rfl⟩)
    refine r_iload_n 0 rfl dX11_unlikeState_2 ?_
    refine r_aload_n 1 rfl dX11_unlikeState_3 ?_
    refine r_getr dX11_unlikeState_4 fl_X11_37 rfl (hM _ _ _ rfl) ?_
    refine r_iconst (v := 0) rfl dX11_unlikeState_7 ?_
    refine r_iald dX11_unlikeState_8 rfl (vpk (k := 0) (by decide) (by decide) rfl) ?_
    refine r_icmpge (tgt := 61) dX11_unlikeState_9 (by decide) (fun zh9 => ?_) (fun zh9 => ?_)
    · rw [c0, hSr] at zh9
      have hie : i = S := by have := geL (k := S) (by omega) (by omega) zh9; omega
      refine r_iconst (v := (-1)) rfl dX11_unlikeState_61 ?_
      exact r_iret hG dX11_unlikeState_62 (⟨by rw [hnone hie]; rfl, rfl, rfl, rfl⟩)
    · rw [c0, hSr] at zh9
      have hlt : i < S := ltL (by omega) zh9
      refine r_iconst (v := 0) rfl dX11_unlikeState_12 ?_
      refine r_istore_n (ls2 := [(2, .int 0), (1, .int (nI i)), (0, .ref 124)]) dX11_unlikeState_13 (by decide) rfl ?_
      exact r_sub [0, 1, 2] rfl (inner hlt 0 (Nat.zero_le _) (fun k hk2 => absurd hk2 (Nat.not_lt_zero k)))
  refine r_iconst (v := 0) rfl dX11_unlikeState_0 ?_
  refine r_istore_n (ls2 := [(1, .int 0), (0, .ref 124)]) dX11_unlikeState_1 (by decide) rfl ?_
  exact loop 0 (Nat.zero_le _) (fun k hk => absurd hk (Nat.not_lt_zero k))
theorem s_clashingArc (hM : x_Lay MR) {A S : Nat} (hA : A ≤ 8) (hS : S ≤ 6) (hSr : MI 130 0 = nI S) (hAr : MI 128 6 = nI A) (hP : okA (arR MI) A S) {z : Dp × Option Nat} (hz : z = clA (MI 135) (MI 136) (MI 128) (arR MI) S A (ML 138, ML 137)) : Cf X yX11_clashingArc cX11_clashingArc 2 (some .int) 4 [.ref 124] n SH MI ML MR (some (.int (optI z.2))) MI (layD ML 138 137 z.1) MR := by
  refine Ct_of (by decide) (Nat.le_of_ble_eq_true rfl) (fun G hG => ?_)
  have c0 : (0 : Int32).toNatClampNeg = 0 := rfl
  have c6 : (6 : Int32).toNatClampNeg = 6 := rfl
  obtain ⟨F, hF⟩ : ∃ F : Nat → Dp → Dp, F = fun i => lyA (MI 135) (MI 136) (MI 128) (arR MI i 0) (arR MI i 1) (arR MI i 2 ||| arR MI i 3) := ⟨_, rfl⟩
  have hz2 : z = clL F A 0 (stL (MI 135) (MI 136) (MI 128) S (zDp (ML 138, ML 137))) := by rw [hz, hF]; rfl
  have l3 : ∀ i, i ≤ A → ∀ q, clL F (A - i) i q = z → RW X G RX11 cX11_clashingArc 2 (x_rm 4 0 0) n SH MI (layD ML 138 137 q) MR 0 0 61 [(1, .int (nI i)), (0, .ref 124)] [] := by
    refine bwd (fun i hi ih q hq => ?_)
    have hFi : F i q = lyA (MI 135) (MI 136) (MI 128) (arR MI i 0) (arR MI i 1) (arR MI i 2 ||| arR MI i 3) q := by rw [hF]
    refine r_iload_n 0 rfl dX11_clashingArc_61 ?_
    refine r_aload_n 1 rfl dX11_clashingArc_62 ?_
    refine r_getr dX11_clashingArc_63 fl_X11_31 rfl (hM _ _ _ rfl) ?_
    refine r_bipush (v := 6) rfl dX11_clashingArc_66 ?_
    refine r_iald dX11_clashingArc_68 rfl (vpk (k := 6) (by decide) (by decide) rfl) ?_
    refine r_icmpge (tgt := 92) dX11_clashingArc_69 (by decide) (fun zh69 => ?_) (fun zh69 => ?_)
    · rw [c6, hAr] at zh69
      have hie : i = A := by have := geL (k := A) (by omega) (by omega) zh69; omega
      rw [hie, Nat.sub_self, clL] at hq
      refine r_iconst (v := (-1)) rfl dX11_clashingArc_92 ?_
      exact r_iret hG dX11_clashingArc_93 (by rw [← hq]; exact ⟨rfl, rfl, rfl, rfl⟩)
    · rw [c6, hAr] at zh69
      have hlt : i < A := ltL (by omega) zh69
      rw [show A - i = (A - (i + 1)) + 1 by omega, clL] at hq
      refine r_aload_n 1 rfl dX11_clashingArc_72 ?_
      refine r_iload_n 0 rfl dX11_clashingArc_73 ?_
      refine r_Vn [.int _] dX11_clashingArc_74 lk_X11_322 mb_X11_laysArc in_X11_laysArc se_X11_laysArc rfl (s_laysArc hM hA hS hP hlt) rfl rfl rfl (Nat.le_of_ble_eq_true rfl) (rfl) ?_
      rw [← hFi]
      refine r_aload_n 1 rfl dX11_clashingArc_77 ?_
      refine r_Vf [] dX11_clashingArc_78 lk_X11_325 mb_X11_clashes in_X11_clashes se_X11_clashes rfl (s_clashes hM) rfl rfl rfl (Nat.le_of_ble_eq_true rfl) (rfl) ?_
      refine r_ifeq (tgt := 86) dX11_clashingArc_81 (by decide) (fun zh81 => ?_) (fun zh81 => ?_)
      · rw [b2z] at zh81
        rw [if_neg (show ¬ clashV (F i q).1 (F i q).2 = true by simpa using zh81)] at hq
        refine r_iinc (v := (nI (i + 1))) (ls2 := [(1, .int (nI (i + 1))), (0, .ref 124)]) 0 dX11_clashingArc_86 rfl (x_inc i) (by decide) rfl ?_
        refine r_goto (tgt := 61) dX11_clashingArc_89 (by decide) ?_
        exact ih hlt _ hq
      · rw [b2z] at zh81
        rw [if_pos (show clashV (F i q).1 (F i q).2 = true by simpa using zh81)] at hq
        refine r_iload_n 0 rfl dX11_clashingArc_84 ?_
        exact r_iret hG dX11_clashingArc_85 (by rw [← hq]; exact ⟨rfl, rfl, rfl, rfl⟩)
  have l2 : ∀ i, i ≤ S → RW X G RX11 cX11_clashingArc 2 (x_rm 4 0 0) n SH MI (layD ML 138 137 (stL (MI 135) (MI 136) (MI 128) i (zDp (ML 138, ML 137)))) MR 0 0 29 [(1, .int (nI i)), (0, .ref 124)] [] := by
    refine bwd (fun i hi ih => ?_)
    refine r_iload_n 0 rfl dX11_clashingArc_29 ?_
    refine r_aload_n 1 rfl dX11_clashingArc_30 ?_
    refine r_getr dX11_clashingArc_31 fl_X11_37 rfl (hM _ _ _ rfl) ?_
    refine r_iconst (v := 0) rfl dX11_clashingArc_34 ?_
    refine r_iald dX11_clashingArc_35 rfl (vpk (k := 0) (by decide) (by decide) rfl) ?_
    refine r_icmpge (tgt := 59) dX11_clashingArc_36 (by decide) (fun zh36 => ?_) (fun zh36 => ?_)
    · rw [c0, hSr] at zh36
      obtain rfl : i = S := by have := geL (k := S) (by omega) (by omega) zh36; omega
      refine r_iconst (v := 0) rfl dX11_clashingArc_59 ?_
      refine r_istore_n (ls2 := [(1, .int 0), (0, .ref 124)]) dX11_clashingArc_60 (by decide) rfl ?_
      exact l3 0 (Nat.zero_le _) _ hz2.symm
    · rw [c0, hSr] at zh36
      have hlt : i < S := ltL (by omega) zh36
      refine r_aload_n 1 rfl dX11_clashingArc_39 ?_
      refine r_aload_n 1 rfl dX11_clashingArc_40 ?_
      refine r_iload_n 0 rfl dX11_clashingArc_41 ?_
      refine r_Vf [.int _] dX11_clashingArc_42 lk_X11_313 mb_X11_pointOf in_X11_pointOf se_X11_pointOf rfl (c_X11_pointOf hM (show i < 6 by omega)) rfl rfl rfl (Nat.le_of_ble_eq_true rfl) (rfl) ?_
      refine r_aload_n 1 rfl dX11_clashingArc_45 ?_
      refine r_iload_n 0 rfl dX11_clashingArc_46 ?_
      refine r_Vf [.int _] dX11_clashingArc_47 lk_X11_316 mb_X11_wants in_X11_wants se_X11_wants rfl (c_X11_wants hM (show i < 6 by omega)) rfl rfl rfl (Nat.le_of_ble_eq_true rfl) (rfl) ?_
      refine r_Vn [.int _, .int _] dX11_clashingArc_50 lk_X11_319 mb_X11_lays in_X11_lays se_X11_lays rfl (s_lays hM) rfl rfl rfl (Nat.le_of_ble_eq_true rfl) (rfl) ?_
      refine r_iinc (v := (nI (i + 1))) (ls2 := [(1, .int (nI (i + 1))), (0, .ref 124)]) 0 dX11_clashingArc_53 rfl (x_inc i) (by decide) rfl ?_
      refine r_goto (tgt := 29) dX11_clashingArc_56 (by decide) ?_
      exact ih hlt
  have l1 : ∀ i, i ≤ 5 → RW X G RX11 cX11_clashingArc 2 (x_rm 4 0 0) n SH MI (layD ML 138 137 (zeroTo (ML 138) i, zeroTo (ML 137) i)) MR 0 0 2 [(1, .int (nI i)), (0, .ref 124)] [] := by
    refine bwd (fun i hi ih => ?_)
    refine r_iload_n 0 rfl dX11_clashingArc_2 ?_
    refine r_iconst (v := 5) rfl dX11_clashingArc_3 ?_
    refine r_icmpge (tgt := 27) dX11_clashingArc_4 (by decide) (fun zh4 => ?_) (fun zh4 => ?_)
    · obtain rfl : i = 5 := by have := geL (k := 5) (by decide) (by omega) zh4; omega
      refine r_iconst (v := 0) rfl dX11_clashingArc_27 ?_
      refine r_istore_n (ls2 := [(1, .int 0), (0, .ref 124)]) dX11_clashingArc_28 (by decide) rfl ?_
      exact l2 0 (Nat.zero_le _)
    · have hlt : i < 5 := ltL (by omega) zh4
      refine r_aload_n 1 rfl dX11_clashingArc_7 ?_
      refine r_getr dX11_clashingArc_8 fl_X11_59 rfl (hM _ _ _ rfl) ?_
      refine r_iload_n 0 rfl dX11_clashingArc_11 ?_
      refine r_lconst (v := 0) rfl dX11_clashingArc_12 ?_
      refine r_last dX11_clashingArc_13 rfl (vp_in_nI hlt (by decide)) ?_
      refine r_aload_n 1 rfl dX11_clashingArc_14 ?_
      refine r_getr dX11_clashingArc_15 fl_X11_62 rfl (hM _ _ _ rfl) ?_
      refine r_iload_n 0 rfl dX11_clashingArc_18 ?_
      refine r_lconst (v := 0) rfl dX11_clashingArc_19 ?_
      refine r_last dX11_clashingArc_20 rfl (vp_in_nI hlt (by decide)) ?_
      refine r_iinc (v := (nI (i + 1))) (ls2 := [(1, .int (nI (i + 1))), (0, .ref 124)]) 0 dX11_clashingArc_21 rfl (x_inc i) (by decide) rfl ?_
      refine r_goto (tgt := 2) dX11_clashingArc_24 (by decide) ?_
      refine r_mem rfl ?_ rfl (ih hlt)
      rw [nI_clamp (by omega)]
      funext b k
      simp only [u2, layD, sr, zeroTo]
      grind
  refine r_iconst (v := 0) rfl dX11_clashingArc_0 ?_
  refine r_istore_n (ls2 := [(1, .int 0), (0, .ref 124)]) dX11_clashingArc_1 (by decide) rfl ?_
  refine r_mem rfl ?_ rfl (l1 0 (by decide))
  funext b k
  simp only [layD, sr, zeroTo]
  grind
theorem laE_arR (t : Tg) : arR (laE MI t) = arR MI := by
  funext i j
  show laE MI t 128 _ = _
  rw [laE_b t (by decide) (by decide)]
theorem optI_ne {q : Option Nat} {A : Nat} (hA : A < 2 ^ 31) (h : ∀ i, q = some i → i < A) : optI q = -1 ↔ q = none := by
  cases q with
  | none => exact ⟨fun _ => rfl, fun _ => rfl⟩
  | some i =>
    have hi := h i rfl
    refine ⟨fun e => ?_, fun e => by cases e⟩
    have := nI_pos (n := i) (by omega)
    rw [show nI i = -1 from e] at this
    exact absurd (show (-1 : Int32) < 0 by decide) this
theorem clL_lt {f : Nat → Dp → Dp} : ∀ (k i : Nat) (q : Dp) (j : Nat), (clL f k i q).2 = some j → j < i + k
  | 0, _, _, _, h => by cases h
  | k + 1, i, q, j, h => by
    rw [clL] at h
    split at h
    · cases h; omega
    · have := clL_lt k (i + 1) _ j h
      omega
theorem unlO_lt {I O C : Nat → Int32} {S s : Nat} (h : unlO I O C S = some s) : s < S := List.mem_range.mp (List.mem_of_find?_eq_some h)
theorem s_looksAtCodes (hM : x_Lay MR) {t : Tg} {A S : Nat} (hA : A ≤ 8) (hS : S ≤ 6) (hSr : MI 130 0 = nI S) (hAr : MI 128 6 = nI A) (hP : okA (arR MI) A S) (he : t.2.2.2.2.1 = 0) {z : Dp × Tg} (hz : z = lcT (MI 128) (arR MI) S A (ML 138, ML 137) t) : Cf X yX11_looksAtCodes cX11_looksAtCodes 3 none 5 [.ref 124] n SH (laE MI t) ML MR none (laE MI z.2) (layD ML 138 137 z.1) MR := by
  refine Ct_of (by decide) (Nat.le_of_ble_eq_true rfl) (fun G hG => ?_)
  have he2 : ¬ t.2.2.2.2.1 < 0 := by rw [he]; decide
  have e128 : laE MI t 128 = MI 128 := laE_b t (by decide) (by decide)
  have e135 : laE MI t 135 = t.2.1 := rfl
  have e136 : laE MI t 136 = t.2.2.1 := rfl
  have e27 : ∀ t : Tg, laE MI t 124 27 = t.2.2.2.2.1 := fun _ => rfl
  have hSl : laE MI t 130 0 = nI S := by rw [laE_b t (by decide) (by decide), hSr]
  have hAl : laE MI t 128 6 = nI A := by rw [e128, hAr]
  have hPl : okA (arR (laE MI t)) A S := by rw [laE_arR]; exact hP
  unfold lcT at hz
  have hun : ∀ q, Cf X yX11_unlikeState cX11_unlikeState 3 (some .int) 3 [.ref 124] n SH (laE MI t) q MR (some (.int (optI (unlO t.2.1 t.2.2.1 (MI 128) S)))) (laE MI t) q MR := fun q => by
    have h := s_unlikeState (X := X) (n := n) (MI := laE MI t) (ML := q) (MR := MR) hM hS hSl
    rw [e128, e135, e136] at h
    exact h
  have hcl : Cf X yX11_clashingArc cX11_clashingArc 2 (some .int) 4 [.ref 124] n SH (laE MI t) ML MR (some (.int (optI (clA t.2.1 t.2.2.1 (MI 128) (arR MI) S A (ML 138, ML 137)).2))) (laE MI t) (layD ML 138 137 (clA t.2.1 t.2.2.1 (MI 128) (arR MI) S A (ML 138, ML 137)).1) MR := by
    have h := s_clashingArc (X := X) (n := n) (MI := laE MI t) (ML := ML) (MR := MR) hM hA hS hSl hAl hPl (z := clA t.2.1 t.2.2.1 (MI 128) (arR MI) S A (ML 138, ML 137)) (by rw [e128, e135, e136, laE_arR])
    exact h
  cases hu : unlO t.2.1 t.2.2.1 (MI 128) S with
  | some s =>
    rw [hu] at hz hun
    have hs := unlO_lt hu
    have hne : ¬ nI s = -1 := fun e => absurd (show nI s < 0 by rw [e]; decide) (nI_pos (by omega))
    have he5 : ¬ (spT t 5 (nI s)).2.2.2.2.1 = 0 := by unfold spT; rw [if_pos he]; exact (by decide : ¬ (5 : Int32) = 0)
    refine r_aload_n 0 rfl dX11_looksAtCodes_0 ?_
    refine r_Vf [] dX11_looksAtCodes_1 lk_X11_329 mb_X11_unlikeState in_X11_unlikeState se_X11_unlikeState rfl (hun _) rfl rfl rfl (Nat.le_of_ble_eq_true rfl) (rfl) ?_
    refine r_istore_n (ls2 := [(1, .int (nI s)), (0, .ref 124)]) dX11_looksAtCodes_4 (by decide) rfl ?_
    refine r_iload_n 0 rfl dX11_looksAtCodes_5 ?_
    refine r_iconst (v := (-1)) rfl dX11_looksAtCodes_6 ?_
    refine r_icmpeq (tgt := 16) dX11_looksAtCodes_7 (by decide) (fun zh7 => ?_) (fun zh7 => ?_)
    · exact absurd zh7 (hne)
    refine r_aload_n 1 rfl dX11_looksAtCodes_10 ?_
    refine r_iconst (v := 5) rfl dX11_looksAtCodes_11 ?_
    refine r_iload_n 0 rfl dX11_looksAtCodes_12 ?_
    refine r_Vn [.int _, .int _] dX11_looksAtCodes_13 lk_X11_303 mb_X11_spoils in_X11_spoils se_X11_spoils rfl (c_X11_spoils he2) rfl rfl rfl (Nat.le_of_ble_eq_true rfl) (rfl) ?_
    refine r_aload_n 1 rfl dX11_looksAtCodes_16 ?_
    refine r_geti dX11_looksAtCodes_17 fl_X11_273 rfl ?_
    refine r_ifne (tgt := 30) dX11_looksAtCodes_20 (by decide) (fun zh20 => ?_) (fun zh20 => ?_)
    rotate_left
    · exact absurd zh20 (fun c => he5 c)
    refine r_iconst (v := (-1)) rfl dX11_looksAtCodes_30 ?_
    refine r_istore_n (ls2 := [(2, .int (-1)), (1, .int (nI s)), (0, .ref 124)]) dX11_looksAtCodes_31 (by decide) rfl ?_
    refine r_iload_n 0 rfl dX11_looksAtCodes_32 ?_
    refine r_iconst (v := (-1)) rfl dX11_looksAtCodes_33 ?_
    refine r_icmpeq (tgt := 44) dX11_looksAtCodes_34 (by decide) (fun zh34 => ?_) (fun zh34 => ?_)
    rotate_left
    · exact absurd zh34 (fun c => c rfl)
    exact r_vret hG dX11_looksAtCodes_44 (by rw [hz]; exact ⟨rfl, rfl, layD_id.symm, rfl⟩)
  | none =>
    rw [hu] at hz hun
    obtain ⟨c, hc⟩ : ∃ c, c = clA t.2.1 t.2.2.1 (MI 128) (arR MI) S A (ML 138, ML 137) := ⟨_, rfl⟩
    rw [← hc] at hz hcl
    have hlt : ∀ i, c.2 = some i → i < A := fun i h => by
      rw [hc] at h
      have := clL_lt _ _ _ _ h
      omega
    have hne := optI_ne (q := c.2) (A := A) (by omega) hlt
    refine r_aload_n 0 rfl dX11_looksAtCodes_0 ?_
    refine r_Vf [] dX11_looksAtCodes_1 lk_X11_329 mb_X11_unlikeState in_X11_unlikeState se_X11_unlikeState rfl (hun _) rfl rfl rfl (Nat.le_of_ble_eq_true rfl) (rfl) ?_
    refine r_istore_n (ls2 := [(1, .int (-1)), (0, .ref 124)]) dX11_looksAtCodes_4 (by decide) rfl ?_
    refine r_iload_n 0 rfl dX11_looksAtCodes_5 ?_
    refine r_iconst (v := (-1)) rfl dX11_looksAtCodes_6 ?_
    refine r_icmpeq (tgt := 16) dX11_looksAtCodes_7 (by decide) (fun zh7 => ?_) (fun zh7 => ?_)
    rotate_left
    · exact absurd zh7 (fun c => c rfl)
    refine r_aload_n 1 rfl dX11_looksAtCodes_16 ?_
    refine r_geti dX11_looksAtCodes_17 fl_X11_273 rfl ?_
    refine r_ifne (tgt := 30) dX11_looksAtCodes_20 (by decide) (fun zh20 => ?_) (fun zh20 => ?_)
    · exact absurd zh20 (fun q => q he)
    refine r_aload_n 1 rfl dX11_looksAtCodes_23 ?_
    refine r_Vf [] dX11_looksAtCodes_24 lk_X11_332 mb_X11_clashingArc in_X11_clashingArc se_X11_clashingArc rfl (hcl) rfl rfl rfl (Nat.le_of_ble_eq_true rfl) (rfl) ?_
    refine r_goto (tgt := 31) dX11_looksAtCodes_27 (by decide) ?_
    refine r_istore_n (ls2 := [(2, .int (optI c.2)), (1, .int (-1)), (0, .ref 124)]) dX11_looksAtCodes_31 (by decide) rfl ?_
    refine r_iload_n 0 rfl dX11_looksAtCodes_32 ?_
    refine r_iconst (v := (-1)) rfl dX11_looksAtCodes_33 ?_
    refine r_icmpeq (tgt := 44) dX11_looksAtCodes_34 (by decide) (fun zh34 => ?_) (fun zh34 => ?_)
    · exact r_vret hG dX11_looksAtCodes_44 (by
          cases h2 : c.2 with
          | none =>
            first
              | (exfalso; exact zh34 (hne.mpr h2))
              | (rw [h2] at hz; rw [hz]; exact ⟨rfl, rfl, rfl, rfl⟩)
          | some i =>
            first
              | (have zn : c.2 = none := hne.mp zh34
                 rw [h2] at zn
                 cases zn)
              | (rw [h2] at hz; rw [hz]; exact ⟨rfl, rfl, rfl, rfl⟩))
    · refine r_aload_n 2 rfl dX11_looksAtCodes_37 ?_
      refine r_bipush (v := 6) rfl dX11_looksAtCodes_38 ?_
      refine r_iload_n 0 rfl dX11_looksAtCodes_40 ?_
      refine r_Vn [.int _, .int _] dX11_looksAtCodes_41 lk_X11_303 mb_X11_spoils in_X11_spoils se_X11_spoils rfl (c_X11_spoils he2) rfl rfl rfl (Nat.le_of_ble_eq_true rfl) (rfl) ?_
      exact r_vret hG dX11_looksAtCodes_44 (by
          cases h2 : c.2 with
          | none =>
            first
              | (exfalso; exact zh34 (hne.mpr h2))
              | (rw [h2] at hz; rw [hz]; exact ⟨rfl, rfl, rfl, rfl⟩)
          | some i =>
            first
              | (have zn : c.2 = none := hne.mp zh34
                 rw [h2] at zn
                 cases zn)
              | (rw [h2] at hz; rw [hz]; exact ⟨rfl, rfl, rfl, rfl⟩))
def zkM (W : Nat → Nat → Int32) (i : Nat) : Nat → Nat → Int32 := fun b j => if (b = 140 ∨ b = 141) ∧ j < i then 0 else W b j
def lkR (P : Nat → Nat → Int32) (C : Nat → Int32) (S A : Nat) (b bi bo : Int32) (q : Dp) (t : Tg) : Dp × Tg :=
  let t3 := cnd (cnd (goA P A b bi bo (t.1, t.2.1, t.2.2.1, t.2.2.2.1, 0, -2)) (vlT S)) (inT P A A)
  if t3.2.2.2.2.1 = 0 then lcT C P S A q t3 else (q, t3)
theorem goT_ge {P : Nat → Nat → Int32} {A : Nat} : ∀ k (t : Tg), ¬ t.2.2.2.2.1 < 0 → ¬ (goT P A k t).2.2.2.2.1 < 0
  | 0, _, h => h
  | k + 1, t, h => by
    rw [goT]
    split
    · split
      · exact goT_ge k _ (folT_ge h)
      · exact h
    · exact h
theorem goA_ge {P : Nat → Nat → Int32} {A : Nat} {b bi bo : Int32} {t : Tg} (h : ¬ t.2.2.2.2.1 < 0) : ¬ (goA P A b bi bo t).2.2.2.2.1 < 0 := by
  unfold goA
  refine goT_ge A _ ?_
  unfold stT
  split <;> exact h
theorem cnd_ge {t : Tg} {f : Tg → Tg} (h : ¬ t.2.2.2.2.1 < 0) (hf : ¬ (f t).2.2.2.2.1 < 0) : ¬ (cnd t f).2.2.2.2.1 < 0 := by
  unfold cnd
  split
  · exact hf
  · exact h
set_option maxRecDepth 100000 in
theorem c_X11_looks (hM : x_Lay MR) {A S b : Nat} (hA : A ≤ 8) (hS : S ≤ 6) (hSr : MI 130 0 = nI S) (hAr : MI 128 6 = nI A) (hP : okA (arR MI) A S) (hb : b < 6) (hbr : MI 130 1 = nI b) {z : Dp × Tg} (hz : z = lkR (arR MI) (MI 128) S A (nI b) (MI 130 2) (MI 130 3) (ML 138, ML 137) (tgR MI)) : Cf X yX11_looks cX11_looks 2 none 6 [.ref 124] n SH MI ML MR none (u2 (u2 (zkM (laE MI z.2) 5) 124 46 (nI b)) 124 47 0) (layD ML 138 137 z.1) MR := by
  refine Ct_of (by decide) (Nat.le_of_ble_eq_true rfl) (fun G hG => ?_)
  have e27 : ∀ t : Tg, laE MI t 124 27 = t.2.2.2.2.1 := fun _ => rfl
  have c1 : (1 : Int32).toNatClampNeg = 1 := rfl
  have hbl : zkM (laE MI z.2) 5 130 1 = nI b := by
    unfold zkM
    rw [if_neg (by decide), laE_b _ (by decide) (by decide), hbr]
  have l1 : ∀ i, i ≤ 5 → RW X G RX11 cX11_looks 2 (x_rm 6 0 0) n SH (zkM (laE MI z.2) i) (layD ML 138 137 z.1) MR 0 0 50 [(1, .int (nI i)), (0, .ref 124)] [] := by
    refine bwd (fun i hi ih => ?_)
    refine r_iload_n 0 rfl dX11_looks_50 ?_
    refine r_iconst (v := 5) rfl dX11_looks_51 ?_
    refine r_icmpge (tgt := 75) dX11_looks_52 (by decide) (fun zh52 => ?_) (fun zh52 => ?_)
    · obtain rfl : i = 5 := by have := geL (k := 5) (by decide) (by omega) zh52; omega
      refine r_aload_n 1 rfl dX11_looks_75 ?_
      refine r_aload_n 1 rfl dX11_looks_76 ?_
      refine r_getr dX11_looks_77 fl_X11_37 rfl (hM _ _ _ rfl) ?_
      refine r_iconst (v := 1) rfl dX11_looks_80 ?_
      refine r_iald dX11_looks_81 rfl (vpk (k := 1) (by decide) (by decide) rfl) ?_
      rw [c1, hbl]
      refine r_puti dX11_looks_82 fl_X11_291 rfl rfl rfl ?_
      refine r_aload_n 1 rfl dX11_looks_85 ?_
      refine r_iconst (v := 0) rfl dX11_looks_86 ?_
      refine r_puti dX11_looks_87 fl_X11_294 rfl rfl rfl ?_
      exact r_vret hG dX11_looks_90 (⟨rfl, rfl, rfl, rfl⟩)
    · have hlt : i < 5 := ltL (by omega) zh52
      refine r_aload_n 1 rfl dX11_looks_55 ?_
      refine r_getr dX11_looks_56 fl_X11_68 rfl (hM _ _ _ rfl) ?_
      refine r_iload_n 0 rfl dX11_looks_59 ?_
      refine r_iconst (v := 0) rfl dX11_looks_60 ?_
      refine r_zast dX11_looks_61 rfl (vp_in_nI hlt (by decide)) ?_
      refine r_aload_n 1 rfl dX11_looks_62 ?_
      refine r_getr dX11_looks_63 fl_X11_71 rfl (hM _ _ _ rfl) ?_
      refine r_iload_n 0 rfl dX11_looks_66 ?_
      refine r_iconst (v := 0) rfl dX11_looks_67 ?_
      refine r_zast dX11_looks_68 rfl (vp_in_nI hlt (by decide)) ?_
      refine r_iinc (v := (nI (i + 1))) (ls2 := [(1, .int (nI (i + 1))), (0, .ref 124)]) 0 dX11_looks_69 rfl (x_inc i) (by decide) rfl ?_
      refine r_goto (tgt := 50) dX11_looks_72 (by decide) ?_
      refine r_mem ?_ rfl rfl (ih hlt)
      rw [nI_clamp (by omega), show vp_nar .boolean 0 = 0 from rfl]
      funext b k
      simp only [u2, zkM]
      grind
  have j48 : ∀ V B, V = laE MI z.2 → B = layD ML 138 137 z.1 → RW X G RX11 cX11_looks 2 (x_rm 6 0 0) n SH V B MR 0 0 48 [(0, .ref 124)] [] := by
    intro V B hV hB
    subst hV
    subst hB
    refine r_iconst (v := 0) rfl dX11_looks_48 ?_
    refine r_istore_n (ls2 := [(1, .int 0), (0, .ref 124)]) dX11_looks_49 (by decide) rfl ?_
    refine r_mem ?_ rfl rfl (l1 0 (by decide))
    funext b k
    simp only [zkM]
    grind
  obtain ⟨t0, ht0⟩ : ∃ t0 : Tg, t0 = ((tgR MI).1, (tgR MI).2.1, (tgR MI).2.2.1, (tgR MI).2.2.2.1, 0, -2) := ⟨_, rfl⟩
  have h0 : ¬ t0.2.2.2.2.1 < 0 := by rw [ht0]; exact (by decide : ¬ (0 : Int32) < 0)
  obtain ⟨t1, ht1⟩ : ∃ t1, t1 = goA (arR MI) A (nI b) (MI 130 2) (MI 130 3) t0 := ⟨_, rfl⟩
  have h1 : ¬ t1.2.2.2.2.1 < 0 := by rw [ht1]; exact goA_ge h0
  obtain ⟨t2, ht2⟩ : ∃ t2, t2 = cnd t1 (vlT S) := ⟨_, rfl⟩
  have h2 : ¬ t2.2.2.2.2.1 < 0 := by rw [ht2]; exact cnd_ge h1 (vlT_ge _ _ h1)
  obtain ⟨t3, ht3⟩ : ∃ t3, t3 = cnd t2 (inT (arR MI) A A) := ⟨_, rfl⟩
  have hz2 : z = if t3.2.2.2.2.1 = 0 then lcT (MI 128) (arR MI) S A (ML 138, ML 137) t3 else ((ML 138, ML 137), t3) := by
    rw [hz, ht3, ht2, ht1, ht0]
    rfl
  have j37 : RW X G RX11 cX11_looks 2 (x_rm 6 0 0) n SH (laE MI t3) ML MR 0 0 37 [(0, .ref 124)] [] := by
    refine r_aload_n 0 rfl dX11_looks_37 ?_
    refine r_geti dX11_looks_38 fl_X11_273 rfl ?_
    refine r_ifne (tgt := 48) dX11_looks_41 (by decide) (fun zh41 => ?_) (fun zh41 => ?_)
    · first
        | exact j48 _ _ rfl rfl
        | (rw [e27] at zh41; rw [if_neg zh41] at hz2; exact j48 _ _ (by rw [hz2]) (by rw [hz2]; exact layD_id.symm))
    · rw [e27] at zh41
      refine r_aload_n 0 rfl dX11_looks_44 ?_
      refine r_Vn [] dX11_looks_45 lk_X11_288 mb_X11_looksAtCodes in_X11_looksAtCodes se_X11_looksAtCodes rfl (s_looksAtCodes hM hA hS hSr hAr hP zh41 (z := z) (by rw [hz2, if_pos zh41])) rfl rfl rfl (Nat.le_of_ble_eq_true rfl) (rfl) ?_
      first
        | exact j48 _ _ rfl rfl
        | (rw [e27] at zh41; rw [if_neg zh41] at hz2; exact j48 _ _ (by rw [hz2]) (by rw [hz2]; exact layD_id.symm))
  have j26 : RW X G RX11 cX11_looks 2 (x_rm 6 0 0) n SH (laE MI t2) ML MR 0 0 26 [(0, .ref 124)] [] := by
    refine r_aload_n 0 rfl dX11_looks_26 ?_
    refine r_geti dX11_looks_27 fl_X11_273 rfl ?_
    refine r_ifne (tgt := 37) dX11_looks_30 (by decide) (fun zh30 => ?_) (fun zh30 => ?_)
    · rw [e27] at zh30
      first
        | (rw [cnd_pos zh30] at ht3; rw [ht3] at j37; exact j37)
        | (rw [cnd_neg zh30] at ht3; rw [ht3] at j37; exact j37)
    · refine r_aload_n 0 rfl dX11_looks_33 ?_
      refine r_Vn [] dX11_looks_34 lk_X11_285 mb_X11_looksAtBursts in_X11_looksAtBursts se_X11_looksAtBursts rfl (s_looksAtBursts hM hA hAr h2) rfl rfl rfl (Nat.le_of_ble_eq_true rfl) (rfl) ?_
      rw [e27] at zh30
      first
        | (rw [cnd_pos zh30] at ht3; rw [ht3] at j37; exact j37)
        | (rw [cnd_neg zh30] at ht3; rw [ht3] at j37; exact j37)
  have ini : u2 (u2 MI 124 27 0) 124 28 (-2) = laE MI t0 := by
    rw [ht0]
    funext b i
    simp only [u2, laE, tgR]
    grind
  refine r_aload_n 0 rfl dX11_looks_0 ?_
  refine r_iconst (v := 0) rfl dX11_looks_1 ?_
  refine r_puti dX11_looks_2 fl_X11_273 rfl rfl rfl ?_
  refine r_aload_n 0 rfl dX11_looks_5 ?_
  refine r_bipush (v := (-2)) rfl dX11_looks_6 ?_
  refine r_puti dX11_looks_8 fl_X11_276 rfl rfl rfl ?_
  refine r_mem ini rfl rfl ?_
  refine r_aload_n 0 rfl dX11_looks_11 ?_
  refine r_Vn [] dX11_looks_12 lk_X11_279 mb_X11_goesAlong in_X11_goesAlong se_X11_goesAlong rfl (s_goesAlong hM hA hS hAr hP hb hbr h0) rfl rfl rfl (Nat.le_of_ble_eq_true rfl) (rfl) ?_
  rw [← ht1]
  refine r_aload_n 0 rfl dX11_looks_15 ?_
  refine r_geti dX11_looks_16 fl_X11_273 rfl ?_
  refine r_ifne (tgt := 26) dX11_looks_19 (by decide) (fun zh19 => ?_) (fun zh19 => ?_)
  · rw [e27] at zh19
    first
      | (rw [cnd_pos zh19] at ht2; rw [ht2] at j26; exact j26)
      | (rw [cnd_neg zh19] at ht2; rw [ht2] at j26; exact j26)
  · refine r_aload_n 0 rfl dX11_looks_22 ?_
    refine r_Vn [] dX11_looks_23 lk_X11_282 mb_X11_looksAtStates in_X11_looksAtStates se_X11_looksAtStates rfl (s_looksAtStates hM hS hSr h1) rfl rfl rfl (Nat.le_of_ble_eq_true rfl) (rfl) ?_
    rw [e27] at zh19
    first
      | (rw [cnd_pos zh19] at ht2; rw [ht2] at j26; exact j26)
      | (rw [cnd_neg zh19] at ht2; rw [ht2] at j26; exact j26)
end rcodes

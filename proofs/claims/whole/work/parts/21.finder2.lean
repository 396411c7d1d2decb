/-! Finder: the search of covers -/
theorem x_fitD {d d' nL : Nat} (h1 : d' + 1 ≤ d) (h2 : 19 + nL ≤ 64) : x_fit (x_rm d 0 0) d' nL 0 0 0 0 = true := by
  unfold x_fit x_rm
  simp only [Bool.and_eq_true, decide_eq_true_eq]
  omega
def mostV (H : Nat → Int64) (o : Int64) (a : Nat) : Nat → Int32
  | 0 => 0
  | k + 1 => maxI (mostV H o a k) (popF (H (a + k) &&& o))
def rarO (R : Nat → Int64) (o : Int64) (nr : Nat) : Option Nat := (List.range nr).find? (fun i => decide (¬ R i &&& o = 0))
def rarV (R : Nat → Int64) (o : Int64) (nr : Nat) : Int64 := match rarO R o nr with
  | some i => R i
  | none => 0
/-- canHold as the code has it: left k, from a on -/
def chV (H R : Nat → Int64) (np nr : Nat) : Nat → Int64 → Nat → Bool
  | 0, o, _ => decide (o = 0)
  | k + 1, o, a => if o = 0 then true else if mostV H o a (np - a) * nI (k + 1) < popF o then false else if k + 1 = 1 ∨ mostV H o a (np - a) = popF o then decide (mostV H o a (np - a) = popF o) else (List.range np).any (fun p => decide (a ≤ p) && (decide (¬ H p &&& rarV R o nr = 0) && chV H R np nr k (o &&& (H p ^^^ -1)) a))
def isBits (g : Nat → Int64) (i : Nat) : Prop := (∀ j, j < i → ∃ q, q < i ∧ g j = bitL q) ∧ ∀ q, q < i → ∃ j, j < i ∧ g j = bitL q
section finder2
variable {X : xG} {n : Nat} {MI : Nat → Nat → Int32} {ML : Nat → Nat → Int64} {MR : Nat → Nat → Option Nat}
set_option maxRecDepth 100000 in
theorem c_X4_mostHeld (hM : x_Lay MR) {o : Int64} {a np : Nat} (hn : np ≤ 240) (hp : MI 86 1 = nI np) (ha : a ≤ np) : Cf X yX4_mostHeld cX4_mostHeld 6 (some .int) 2 [.ref 86, .long o, .int (nI a)] n SH MI ML MR (some (.int (mostV (ML 87) o a (np - a)))) MI ML MR := by
  refine Ct_of (by decide) (Nat.le_of_ble_eq_true rfl) (fun G hG => ?_)
  have loop : ∀ i, i ≤ np - a → RW X G RX4 cX4_mostHeld 6 (x_rm 2 0 0) n SH MI ML MR 0 0 6 [(5, .int (nI (a + i))), (4, .int (mostV (ML 87) o a i)), (0, .ref 86), (1, .long o), (3, .int (nI a))] [] := by
    refine bwd (fun i hi ih => ?_)
    refine r_iload 0 rfl dX4_mostHeld_6 ?_
    refine r_aload_n 2 rfl dX4_mostHeld_8 ?_
    refine r_geti dX4_mostHeld_9 fl_X4_24 rfl ?_
    refine r_icmpge (tgt := 39) dX4_mostHeld_12 (by decide) (fun zh12 => ?_) (fun zh12 => ?_)
    · rw [hp] at zh12
      obtain rfl : i = np - a := by have := geL (k := np) (i := a + i) (by omega) (by omega) zh12; omega
      refine r_iload 1 rfl dX4_mostHeld_39 ?_
      exact r_iret hG dX4_mostHeld_41 (⟨rfl, rfl, rfl, rfl⟩)
    · rw [hp] at zh12
      have hlt : i < np - a := by have := ltL (k := np) (i := a + i) (by omega) zh12; omega
      refine r_iload 1 rfl dX4_mostHeld_15 ?_
      refine r_aload_n 2 rfl dX4_mostHeld_17 ?_
      refine r_iload 0 rfl dX4_mostHeld_18 ?_
      refine r_Vf [.int _] dX4_mostHeld_20 lk_X4_27 mb_X4_heldBy in_X4_heldBy se_X4_heldBy rfl (c_X4_heldBy hM) rfl rfl rfl (Nat.le_of_ble_eq_true rfl) (rfl) ?_
      refine r_lload_n 3 rfl dX4_mostHeld_23 ?_
      refine r_land dX4_mostHeld_24 ?_
      refine r_Sf [.long _] dX4_mostHeld_25 lk_X4_52 mb_J13_bitCount_95d88 sc_J13_bitCount_95d88 rfl (c_J13_bitCount_95d88) rfl (Nat.le_of_ble_eq_true rfl) (rfl) ?_
      refine r_mmax dX4_mostHeld_28 lmx_X4_61 (Nat.le_of_ble_eq_true rfl) rfl ?_
      refine r_nmi (fun zv31 ze31 => ?_)
      refine r_istore (ls2 := [(4, .int zv31), (5, .int (nI (a + i))), (0, .ref 86), (1, .long o), (3, .int (nI a))]) dX4_mostHeld_31 (by decide) rfl ?_
      refine r_iinc (v := (nI (a + (i + 1)))) (ls2 := [(5, .int (nI (a + (i + 1)))), (4, .int zv31), (0, .ref 86), (1, .long o), (3, .int (nI a))]) 1 dX4_mostHeld_33 rfl (x_inc _) (by decide) rfl ?_
      refine r_goto (tgt := 6) dX4_mostHeld_36 (by decide) ?_
      obtain rfl : zv31 = mostV (ML 87) o a (i + 1) := by rw [ze31, heldV_nI (by omega)]; rfl
      exact r_sub [0, 1, 2, 3, 4] rfl (ih hlt)
  refine r_iconst (v := 0) rfl dX4_mostHeld_0 ?_
  refine r_istore (ls2 := [(4, .int 0), (0, .ref 86), (1, .long o), (3, .int (nI a))]) dX4_mostHeld_1 (by decide) rfl ?_
  refine r_iload_n 3 rfl dX4_mostHeld_3 ?_
  refine r_istore (ls2 := [(5, .int (nI a)), (4, .int 0), (0, .ref 86), (1, .long o), (3, .int (nI a))]) dX4_mostHeld_4 (by decide) rfl ?_
  exact r_sub [0, 1, 2, 3, 4] rfl (loop 0 (by omega))
set_option maxRecDepth 100000 in
theorem c_X4_rarestOf (hM : x_Lay MR) {o : Int64} {nr : Nat} (hr : nr ≤ 33) (hq : MI 86 2 = nI nr) : Cf X yX4_rarestOf cX4_rarestOf 4 (some .long) 1 [.ref 86, .long o] n SH MI ML MR (some (.long (rarV (ML 88) o nr))) MI ML MR := by
  refine Ct_of (by decide) (Nat.le_of_ble_eq_true rfl) (fun G hG => ?_)
  have loop : ∀ i, i ≤ nr → (∀ k, k < i → decide (¬ ML 88 k &&& o = 0) = false) → RW X G RX4 cX4_rarestOf 4 (x_rm 1 0 0) n SH MI ML MR 0 0 2 [(3, .int (nI i)), (0, .ref 86), (1, .long o)] [] := by
    refine bwd (fun i hi ih hk => ?_)
    have hnone : i = nr → rarV (ML 88) o nr = 0 := fun e => by
      have h : rarO (ML 88) o nr = none := by
        unfold rarO
        rw [List.find?_eq_none]
        intro k hk2
        rw [hk k (by rw [e]; exact List.mem_range.mp hk2)]
        decide
      unfold rarV
      rw [h]
    have hsome : i < nr → decide (¬ ML 88 i &&& o = 0) = true → rarV (ML 88) o nr = ML 88 i := fun hlt hb => by
      have h : rarO (ML 88) o nr = some i := by
        unfold rarO
        rw [List.find?_range_eq_some]
        exact ⟨hb, List.mem_range.mpr hlt, fun k hk2 => by rw [hk k hk2]; rfl⟩
      unfold rarV
      rw [h]
    have hstep : decide (¬ ML 88 i &&& o = 0) = false → ∀ k, k < i + 1 → decide (¬ ML 88 k &&& o = 0) = false := fun hb k hk2 => by
      rcases Nat.lt_or_ge k i with q | q
      · exact hk k q
      · obtain rfl : k = i := by omega
        exact hb
    refine r_iload_n 0 rfl dX4_rarestOf_2 ?_
    refine r_aload_n 1 rfl dX4_rarestOf_3 ?_
    refine r_geti dX4_rarestOf_4 fl_X4_20 rfl ?_
    refine r_icmpge (tgt := 42) dX4_rarestOf_7 (by decide) (fun zh7 => ?_) (fun zh7 => ?_)
    · rw [hq] at zh7
      obtain rfl : i = nr := by have := geL (k := nr) (by omega) (by omega) zh7; omega
      refine r_lconst (v := 0) rfl dX4_rarestOf_42 ?_
      exact r_lret hG dX4_rarestOf_43 (⟨by rw [hnone rfl], rfl, rfl, rfl⟩)
    · rw [hq] at zh7
      have hlt : i < nr := ltL (by omega) zh7
      refine r_iload_n 0 rfl dX4_rarestOf_10 ?_
      refine r_bipush (v := 33) rfl dX4_rarestOf_11 ?_
      refine r_icmpge (tgt := 42) dX4_rarestOf_13 (by decide) (fun zh13 => ?_) (fun zh13 => ?_)
      · exact absurd zh13 (fun q => absurd (geL (k := 33) (by decide) (by omega) q) (by omega))
      refine r_aload_n 1 rfl dX4_rarestOf_16 ?_
      refine r_getr dX4_rarestOf_17 fl_X4_17 rfl (hM _ _ _ rfl) ?_
      refine r_iload_n 0 rfl dX4_rarestOf_20 ?_
      refine r_lald dX4_rarestOf_21 rfl (vp_in_nI (show i < 33 by omega) (by decide)) ?_
      refine r_lload_n 2 rfl dX4_rarestOf_22 ?_
      refine r_land dX4_rarestOf_23 ?_
      refine r_lconst (v := 0) rfl dX4_rarestOf_24 ?_
      refine r_lcmp dX4_rarestOf_25 ?_
      refine r_ifeq (tgt := 36) dX4_rarestOf_26 (by decide) (fun zh26 => ?_) (fun zh26 => ?_)
      · rw [lcmp_eq, nI_clamp (by omega)] at zh26
        refine r_iinc (v := (nI (i + 1))) (ls2 := [(3, .int (nI (i + 1))), (0, .ref 86), (1, .long o)]) 0 dX4_rarestOf_36 rfl (x_inc i) (by decide) rfl ?_
        refine r_goto (tgt := 2) dX4_rarestOf_39 (by decide) ?_
        exact ih hlt (hstep (decide_eq_false (fun h => h zh26)))
      · rw [lcmp_eq, nI_clamp (by omega)] at zh26
        refine r_aload_n 1 rfl dX4_rarestOf_29 ?_
        refine r_getr dX4_rarestOf_30 fl_X4_17 rfl (hM _ _ _ rfl) ?_
        refine r_iload_n 0 rfl dX4_rarestOf_33 ?_
        refine r_lald dX4_rarestOf_34 rfl (vp_in_nI (show i < 33 by omega) (by decide)) ?_
        exact r_lret hG dX4_rarestOf_35 (⟨by rw [hsome hlt (decide_eq_true zh26), nI_clamp (by omega)], rfl, rfl, rfl⟩)
  refine r_iconst (v := 0) rfl dX4_rarestOf_0 ?_
  refine r_istore_n (ls2 := [(3, .int 0), (0, .ref 86), (1, .long o)]) dX4_rarestOf_1 (by decide) rfl ?_
  exact loop 0 (by omega) (fun k hk => absurd hk (Nat.not_lt_zero k))
theorem chV_0 {H R : Nat → Int64} {np nr k a : Nat} : chV H R np nr k 0 a = true := by cases k <;> simp [chV]
set_option maxRecDepth 100000 in
theorem c_X4_canHold (hM : x_Lay MR) {np nr : Nat} (hn : np ≤ 240) (hp : MI 86 1 = nI np) (hr : nr ≤ 33) (hq : MI 86 2 = nI nr) : ∀ (k : Nat), k ≤ 5 → ∀ (o : Int64) (a : Nat), a ≤ np → Cf X yX4_canHold cX4_canHold 10 (some .boolean) (3 + k) [.ref 86, .long o, .int (nI k), .int (nI a)] n SH MI ML MR (some (.int (if chV (ML 87) (ML 88) np nr k o a = true then 1 else 0))) MI ML MR := by
  intro k
  induction k with
  | zero =>
    intro _ o a ha
    refine Ct_of (by decide) (Nat.le_of_ble_eq_true rfl) (fun G hG => ?_)
    refine r_lload_n 1 rfl dX4_canHold_0 ?_
    refine r_lconst (v := 0) rfl dX4_canHold_1 ?_
    refine r_lcmp dX4_canHold_2 ?_
    refine r_ifne (tgt := 8) dX4_canHold_3 (by decide) (fun zh3 => ?_) (fun zh3 => ?_)
    · refine r_aload_n 0 rfl dX4_canHold_8 ?_
      refine r_lload_n 1 rfl dX4_canHold_9 ?_
      refine r_iload 3 rfl dX4_canHold_10 ?_
      refine r_Vf [.long _, .int _] dX4_canHold_12 lk_X4_48 mb_X4_mostHeld in_X4_mostHeld se_X4_mostHeld rfl (c_X4_mostHeld hM hn hp ha) rfl rfl rfl (Nat.le_of_ble_eq_true rfl) (rfl) ?_
      refine r_nmi (fun zv15 ze15 => ?_)
      refine r_istore (ls2 := [(5, .int zv15), (0, .ref 86), (1, .long o), (3, .int (nI 0)), (4, .int (nI a))]) dX4_canHold_15 (by decide) rfl ?_
      refine r_lload_n 2 rfl dX4_canHold_17 ?_
      refine r_Sf [.long _] dX4_canHold_18 lk_X4_52 mb_J13_bitCount_95d88 sc_J13_bitCount_95d88 rfl (c_J13_bitCount_95d88) rfl (Nat.le_of_ble_eq_true rfl) (rfl) ?_
      refine r_nmi (fun zv21 ze21 => ?_)
      refine r_istore (ls2 := [(6, .int zv21), (5, .int zv15), (0, .ref 86), (1, .long o), (3, .int (nI 0)), (4, .int (nI a))]) dX4_canHold_21 (by decide) rfl ?_
      refine r_iload_n 4 rfl dX4_canHold_23 ?_
      refine r_ifle (tgt := 41) dX4_canHold_24 (by decide) (fun zh24 => ?_) (fun zh24 => ?_)
      rotate_left
      · exact absurd zh24 (fun q => q (by decide))
      refine r_iconst (v := 0) rfl dX4_canHold_41 ?_
      exact r_zret hG dX4_canHold_42 (rfl) (⟨by rw [lcmp_eq] at zh3; simp [chV, zh3], rfl, rfl, rfl⟩)
    · refine r_iconst (v := 1) rfl dX4_canHold_6 ?_
      exact r_zret hG dX4_canHold_7 (rfl) (⟨by rw [lcmp_eq] at zh3; rw [zh3, chV_0]; rfl, rfl, rfl, rfl⟩)
  | succ k ih =>
    intro hk o a ha
    have ihk := ih (by omega)
    refine Ct_of (by decide) (Nat.le_of_ble_eq_true rfl) (fun G hG => ?_)
    have hkz : ¬ nI (k + 1) ≤ 0 := nI_nle (by omega) (by omega)
    have hk5 : ¬ (5 : Int32) < nI (k + 1) := fun q => absurd ((nI_ltI (a := 5) (b := k + 1) (by decide) (by omega)).mp q) (by omega)
    have hk1 : nI (k + 1) = 1 ↔ k + 1 = 1 := nI_eq (a := k + 1) (b := 1) (by omega) (by decide)
    obtain ⟨tst, htst⟩ : ∃ tst : Nat → Bool, tst = fun p => (decide (¬ ML 87 p &&& rarV (ML 88) o nr = 0) && chV (ML 87) (ML 88) np nr k (o &&& (ML 87 p ^^^ -1)) a) := ⟨_, rfl⟩
    have loop : chV (ML 87) (ML 88) np nr (k + 1) o a = (List.range np).any (fun p => decide (a ≤ p) && tst p) → ∀ (c5 c6 : Int32), ∀ p, p ≤ np → a ≤ p → (∀ q, a ≤ q → q < p → tst q = false) → RW X G RX4 cX4_canHold 10 (x_rm (3 + (k + 1)) 0 0) n SH MI ML MR 0 0 79 [(9, .int (nI p)), (7, .long (rarV (ML 88) o nr)), (6, .int c6), (5, .int c5), (0, .ref 86), (1, .long o), (3, .int (nI (k + 1))), (4, .int (nI a))] [] := by
      intro hch c5 c6
      refine bwd (fun p hp2 ihp hap hno => ?_)
      have hstep : tst p = false → ∀ q, a ≤ q → q < p + 1 → tst q = false := fun hb q h1 h2 => by
        rcases Nat.lt_or_ge q p with z | z
        · exact hno q h1 z
        · obtain rfl : q = p := by omega
          exact hb
      refine r_iload 0 rfl dX4_canHold_79 ?_
      refine r_aload_n 4 rfl dX4_canHold_81 ?_
      refine r_geti dX4_canHold_82 fl_X4_24 rfl ?_
      refine r_icmpge (tgt := 134) dX4_canHold_85 (by decide) (fun zh85 => ?_) (fun zh85 => ?_)
      · rw [hp] at zh85
        obtain rfl : p = np := by have := geL (k := np) (by omega) (by omega) zh85; omega
        refine r_iconst (v := 0) rfl dX4_canHold_134 ?_
        exact r_zret hG dX4_canHold_135 (rfl) (⟨by rw [hch, if_neg (fun q => by rw [List.any_eq_true] at q; obtain ⟨z, z1, z2⟩ := q; rw [Bool.and_eq_true, decide_eq_true_eq] at z2; rw [hno z z2.1 (List.mem_range.mp z1)] at z2; exact absurd z2.2 (by decide))], rfl, rfl, rfl⟩)
      · rw [hp] at zh85
        have hlt : p < np := ltL (by omega) zh85
        refine r_aload_n 4 rfl dX4_canHold_88 ?_
        refine r_iload 0 rfl dX4_canHold_89 ?_
        refine r_Vf [.int _] dX4_canHold_91 lk_X4_27 mb_X4_heldBy in_X4_heldBy se_X4_heldBy rfl (c_X4_heldBy hM) rfl rfl rfl (Nat.le_of_ble_eq_true rfl) (x_fitD (by omega) (by decide)) ?_
        refine r_lload 1 rfl dX4_canHold_94 ?_
        refine r_land dX4_canHold_96 ?_
        refine r_lconst (v := 0) rfl dX4_canHold_97 ?_
        refine r_lcmp dX4_canHold_98 ?_
        refine r_ifeq (tgt := 128) dX4_canHold_99 (by decide) (fun zh99 => ?_) (fun zh99 => ?_)
        · try rw [lcmp_eq, heldV_nI (by omega)] at zh99
          refine r_iinc (v := (nI (p + 1))) (ls2 := [(9, .int (nI (p + 1))), (7, .long (rarV (ML 88) o nr)), (6, .int c6), (5, .int c5), (0, .ref 86), (1, .long o), (3, .int (nI (k + 1))), (4, .int (nI a))]) 0 dX4_canHold_128 rfl (x_inc p) (by decide) rfl ?_
          refine r_goto (tgt := 79) dX4_canHold_131 (by decide) ?_
          exact r_sub [0, 1, 2, 3, 4, 5, 6, 7] rfl (ihp hlt (by omega) (hstep (by rw [htst]; simp_all)))
        · rw [lcmp_eq, heldV_nI (by omega)] at zh99
          have hrec : Cf X yX4_canHold cX4_canHold 10 (some .boolean) (3 + k) [.ref 86, .long (o &&& (heldV (ML 87) (nI p) ^^^ -1)), .int (nI (k + 1) - 1), .int (nI a)] n SH MI ML MR (some (.int (if chV (ML 87) (ML 88) np nr k (o &&& (ML 87 p ^^^ -1)) a = true then 1 else 0))) MI ML MR := by
            rw [heldV_nI (by omega), nI_pred]
            exact ihk _ a ha
          refine r_aload_n 4 rfl dX4_canHold_102 ?_
          refine r_lload_n 5 rfl dX4_canHold_103 ?_
          refine r_aload_n 4 rfl dX4_canHold_104 ?_
          refine r_iload 0 rfl dX4_canHold_105 ?_
          refine r_Vf [.int _] dX4_canHold_107 lk_X4_27 mb_X4_heldBy in_X4_heldBy se_X4_heldBy rfl (c_X4_heldBy hM) rfl rfl rfl (Nat.le_of_ble_eq_true rfl) (x_fitD (by omega) (by decide)) ?_
          refine r_ldc2 kl_X4_42 dX4_canHold_110 ?_
          refine r_lxor dX4_canHold_113 ?_
          refine r_land dX4_canHold_114 ?_
          refine r_iload_n 6 rfl dX4_canHold_115 ?_
          refine r_iconst (v := 1) rfl dX4_canHold_116 ?_
          refine r_isub dX4_canHold_117 ?_
          refine r_iload 7 rfl dX4_canHold_118 ?_
          refine r_Vf [.long _, .int _, .int _] dX4_canHold_120 lk_X4_38 mb_X4_canHold in_X4_canHold se_X4_canHold rfl (hrec) rfl rfl rfl (Nat.le_of_ble_eq_true rfl) (x_fitD (by omega) (by decide)) ?_
          refine r_ifeq (tgt := 128) dX4_canHold_123 (by decide) (fun zh123 => ?_) (fun zh123 => ?_)
          · try rw [lcmp_eq, heldV_nI (by omega)] at zh99
            refine r_iinc (v := (nI (p + 1))) (ls2 := [(9, .int (nI (p + 1))), (7, .long (rarV (ML 88) o nr)), (6, .int c6), (5, .int c5), (0, .ref 86), (1, .long o), (3, .int (nI (k + 1))), (4, .int (nI a))]) 0 dX4_canHold_128 rfl (x_inc p) (by decide) rfl ?_
            refine r_goto (tgt := 79) dX4_canHold_131 (by decide) ?_
            exact r_sub [0, 1, 2, 3, 4, 5, 6, 7] rfl (ihp hlt (by omega) (hstep (by rw [htst]; simp_all)))
          · refine r_iconst (v := 1) rfl dX4_canHold_126 ?_
            exact r_zret hG dX4_canHold_127 (rfl) (⟨by rw [hch, if_pos (by rw [List.any_eq_true]; exact ⟨p, List.mem_range.mpr hlt, by rw [htst]; simp_all⟩)], rfl, rfl, rfl⟩)
    refine r_lload_n 1 rfl dX4_canHold_0 ?_
    refine r_lconst (v := 0) rfl dX4_canHold_1 ?_
    refine r_lcmp dX4_canHold_2 ?_
    refine r_ifne (tgt := 8) dX4_canHold_3 (by decide) (fun zh3 => ?_) (fun zh3 => ?_)
    · rw [lcmp_eq] at zh3
      refine r_aload_n 0 rfl dX4_canHold_8 ?_
      refine r_lload_n 1 rfl dX4_canHold_9 ?_
      refine r_iload 3 rfl dX4_canHold_10 ?_
      refine r_Vf [.long _, .int _] dX4_canHold_12 lk_X4_48 mb_X4_mostHeld in_X4_mostHeld se_X4_mostHeld rfl (c_X4_mostHeld hM hn hp ha) rfl rfl rfl (Nat.le_of_ble_eq_true rfl) (x_fitD (by omega) (by decide)) ?_
      refine r_nmi (fun zv15 ze15 => ?_)
      refine r_istore (ls2 := [(5, .int zv15), (0, .ref 86), (1, .long o), (3, .int (nI (k + 1))), (4, .int (nI a))]) dX4_canHold_15 (by decide) rfl ?_
      refine r_lload_n 2 rfl dX4_canHold_17 ?_
      refine r_Sf [.long _] dX4_canHold_18 lk_X4_52 mb_J13_bitCount_95d88 sc_J13_bitCount_95d88 rfl (c_J13_bitCount_95d88) rfl (Nat.le_of_ble_eq_true rfl) (x_fitD (by omega) (by decide)) ?_
      refine r_nmi (fun zv21 ze21 => ?_)
      refine r_istore (ls2 := [(6, .int zv21), (5, .int zv15), (0, .ref 86), (1, .long o), (3, .int (nI (k + 1))), (4, .int (nI a))]) dX4_canHold_21 (by decide) rfl ?_
      refine r_iload_n 4 rfl dX4_canHold_23 ?_
      refine r_ifle (tgt := 41) dX4_canHold_24 (by decide) (fun zh24 => ?_) (fun zh24 => ?_)
      · exact absurd zh24 (hkz)
      refine r_iload_n 4 rfl dX4_canHold_27 ?_
      refine r_iconst (v := 5) rfl dX4_canHold_28 ?_
      refine r_icmpgt (tgt := 41) dX4_canHold_29 (by decide) (fun zh29 => ?_) (fun zh29 => ?_)
      · exact absurd zh29 (hk5)
      refine r_iload 1 rfl dX4_canHold_32 ?_
      refine r_iload_n 4 rfl dX4_canHold_34 ?_
      refine r_imul dX4_canHold_35 ?_
      refine r_iload 0 rfl dX4_canHold_36 ?_
      refine r_icmpge (tgt := 43) dX4_canHold_38 (by decide) (fun zh38 => ?_) (fun zh38 => ?_)
      · rw [ze15, ze21] at zh38
        refine r_iload_n 4 rfl dX4_canHold_43 ?_
        refine r_iconst (v := 1) rfl dX4_canHold_44 ?_
        refine r_icmpeq (tgt := 55) dX4_canHold_45 (by decide) (fun zh45 => ?_) (fun zh45 => ?_)
        · refine r_iload 1 rfl dX4_canHold_55 ?_
          refine r_iload 0 rfl dX4_canHold_57 ?_
          refine r_icmpne (tgt := 66) dX4_canHold_59 (by decide) (fun zh59 => ?_) (fun zh59 => ?_)
          · refine r_iconst (v := 0) rfl dX4_canHold_66 ?_
            exact r_zret hG dX4_canHold_67 (rfl) (by have hnl : ¬ mostV (ML 87) o a (np - a) * nI (k + 1) < popF o := (fun q => absurd zh38 (Int32.not_le.mpr q)); rw [ze15, ze21] at zh59; refine ⟨?_, rfl, rfl, rfl⟩; rw [chV, if_neg zh3, if_neg hnl]; first | (rw [if_pos (Or.inl (hk1.mp zh45))]; simp [zh59]; done) | (rw [ze15, ze21] at zh52; rw [if_pos (Or.inr zh52)]; simp [zh59]; done))
          · refine r_iconst (v := 1) rfl dX4_canHold_62 ?_
            refine r_goto (tgt := 67) dX4_canHold_63 (by decide) ?_
            exact r_zret hG dX4_canHold_67 (rfl) (by have hnl : ¬ mostV (ML 87) o a (np - a) * nI (k + 1) < popF o := (fun q => absurd zh38 (Int32.not_le.mpr q)); rw [ze15, ze21] at zh59; refine ⟨?_, rfl, rfl, rfl⟩; rw [chV, if_neg zh3, if_neg hnl]; first | (rw [if_pos (Or.inl (hk1.mp zh45))]; simp [zh59]; done) | (rw [ze15, ze21] at zh52; rw [if_pos (Or.inr zh52)]; simp [zh59]; done))
        · refine r_iload 1 rfl dX4_canHold_48 ?_
          refine r_iload 0 rfl dX4_canHold_50 ?_
          refine r_icmpne (tgt := 68) dX4_canHold_52 (by decide) (fun zh52 => ?_) (fun zh52 => ?_)
          · refine r_aload_n 2 rfl dX4_canHold_68 ?_
            refine r_lload_n 3 rfl dX4_canHold_69 ?_
            refine r_Vf [.long _] dX4_canHold_70 lk_X4_57 mb_X4_rarestOf in_X4_rarestOf se_X4_rarestOf rfl (c_X4_rarestOf hM hr hq) rfl rfl rfl (Nat.le_of_ble_eq_true rfl) (x_fitD (by omega) (by decide)) ?_
            refine r_lstore (ls2 := [(7, .long (rarV (ML 88) o nr)), (6, .int zv21), (5, .int zv15), (0, .ref 86), (1, .long o), (3, .int (nI (k + 1))), (4, .int (nI a))]) dX4_canHold_73 (by decide) rfl ?_
            refine r_iload 6 rfl dX4_canHold_75 ?_
            refine r_istore (ls2 := [(9, .int (nI a)), (7, .long (rarV (ML 88) o nr)), (6, .int zv21), (5, .int zv15), (0, .ref 86), (1, .long o), (3, .int (nI (k + 1))), (4, .int (nI a))]) dX4_canHold_77 (by decide) rfl ?_
            rw [ze15, ze21] at zh52
            exact r_sub [0, 1, 2, 3, 4, 5, 6, 7] rfl (loop (by rw [chV, if_neg zh3, if_neg (fun q => absurd zh38 (Int32.not_le.mpr q)), if_neg (fun q => q.elim (fun z => zh45 (hk1.mpr z)) zh52), htst]) zv15 zv21 a ha (Nat.le_refl a) (fun q h1 h2 => absurd h1 (by omega)))
          · refine r_iload 1 rfl dX4_canHold_55 ?_
            refine r_iload 0 rfl dX4_canHold_57 ?_
            refine r_icmpne (tgt := 66) dX4_canHold_59 (by decide) (fun zh59 => ?_) (fun zh59 => ?_)
            · refine r_iconst (v := 0) rfl dX4_canHold_66 ?_
              exact r_zret hG dX4_canHold_67 (rfl) (by have hnl : ¬ mostV (ML 87) o a (np - a) * nI (k + 1) < popF o := (fun q => absurd zh38 (Int32.not_le.mpr q)); rw [ze15, ze21] at zh59; refine ⟨?_, rfl, rfl, rfl⟩; rw [chV, if_neg zh3, if_neg hnl]; first | (rw [if_pos (Or.inl (hk1.mp zh45))]; simp [zh59]; done) | (rw [ze15, ze21] at zh52; rw [if_pos (Or.inr zh52)]; simp [zh59]; done))
            · refine r_iconst (v := 1) rfl dX4_canHold_62 ?_
              refine r_goto (tgt := 67) dX4_canHold_63 (by decide) ?_
              exact r_zret hG dX4_canHold_67 (rfl) (by have hnl : ¬ mostV (ML 87) o a (np - a) * nI (k + 1) < popF o := (fun q => absurd zh38 (Int32.not_le.mpr q)); rw [ze15, ze21] at zh59; refine ⟨?_, rfl, rfl, rfl⟩; rw [chV, if_neg zh3, if_neg hnl]; first | (rw [if_pos (Or.inl (hk1.mp zh45))]; simp [zh59]; done) | (rw [ze15, ze21] at zh52; rw [if_pos (Or.inr zh52)]; simp [zh59]; done))
      · rw [ze15, ze21] at zh38
        refine r_iconst (v := 0) rfl dX4_canHold_41 ?_
        exact r_zret hG dX4_canHold_42 (rfl) (⟨by rw [chV, if_neg zh3, if_pos (Int32.not_le.mp zh38)]; rfl, rfl, rfl, rfl⟩)
    · refine r_iconst (v := 1) rfl dX4_canHold_6 ?_
      exact r_zret hG dX4_canHold_7 (rfl) (⟨by rw [lcmp_eq] at zh3; rw [zh3, chV_0]; rfl, rfl, rfl, rfl⟩)
end finder2

/-! Sheet: reads -/
def x_Sh (MR : Nat → Nat → Option Nat) (a : Nat) : Prop := SH[a]? = some (7, 19) ∧ MR a 1 = some 43 ∧ MR a 2 = some 57 ∧ MR a 3 = some 86 ∧ MR a 5 = some (a + 1) ∧ MR a 7 = some (a + 2) ∧ MR a 8 = some (a + 3) ∧ MR a 10 = some (a + 4) ∧ MR a 12 = some (a + 5) ∧ MR a 17 = some (a + 6) ∧ SH[a + 1]? = some (13, 33) ∧ SH[a + 2]? = some (14, 8) ∧ SH[a + 3]? = some (14, 8) ∧ SH[a + 4]? = some (13, 240) ∧ SH[a + 5]? = some (13, 5) ∧ SH[a + 6]? = some (13, 64) ∧ 88 < a
theorem shAll : ∀ f, f < 5 → SH[89 + 7 * f]? = some (7, 19) ∧ lay (89 + 7 * f) 1 = some 43 ∧ lay (89 + 7 * f) 2 = some 57 ∧ lay (89 + 7 * f) 3 = some 86 ∧ lay (89 + 7 * f) 5 = some (89 + 7 * f + 1) ∧ lay (89 + 7 * f) 7 = some (89 + 7 * f + 2) ∧ lay (89 + 7 * f) 8 = some (89 + 7 * f + 3) ∧ lay (89 + 7 * f) 10 = some (89 + 7 * f + 4) ∧ lay (89 + 7 * f) 12 = some (89 + 7 * f + 5) ∧ lay (89 + 7 * f) 17 = some (89 + 7 * f + 6) ∧ SH[89 + 7 * f + 1]? = some (13, 33) ∧ SH[89 + 7 * f + 2]? = some (14, 8) ∧ SH[89 + 7 * f + 3]? = some (14, 8) ∧ SH[89 + 7 * f + 4]? = some (13, 240) ∧ SH[89 + 7 * f + 5]? = some (13, 5) ∧ SH[89 + 7 * f + 6]? = some (13, 64) ∧ lay 59 f = some (89 + 7 * f) := fun f hf => by
  rcases (show f = 0 ∨ f = 1 ∨ f = 2 ∨ f = 3 ∨ f = 4 by omega) with rfl | rfl | rfl | rfl | rfl <;> exact ⟨rfl, rfl, rfl, rfl, rfl, rfl, rfl, rfl, rfl, rfl, rfl, rfl, rfl, rfl, rfl, rfl, rfl⟩
theorem shOf {MR : Nat → Nat → Option Nat} (hM : x_Lay MR) {f : Nat} (hf : f < 5) : x_Sh MR (89 + 7 * f) := by
  obtain ⟨h0, h1, h2, h3, h5, h7, h8, h10, h12, h17, t1, t2, t3, t4, t5, t6, -⟩ := shAll f hf
  exact ⟨h0, hM _ _ _ h1, hM _ _ _ h2, hM _ _ _ h3, hM _ _ _ h5, hM _ _ _ h7, hM _ _ _ h8, hM _ _ _ h10, hM _ _ _ h12, hM _ _ _ h17, t1, t2, t3, t4, t5, t6, by omega⟩
def hasF (x : Int32) : Bool := decide (¬ x < 0 ∧ ¬ (5 : Int32) < x)
def runV (c : Nat → Int64) (kn : Int64) : Nat → Int32
  | 0 => 0
  | k + 1 => strongV (runV c kn k) (prodV (c k) kn)
/-- the POINTS of the i-th chosen PRIME -/
def choP (MI : Nat → Nat → Int32) (ML : Nat → Nat → Int64) (a i : Nat) : Int64 := ptsV ML (pickV (MI (a + 4)) 240 (MI (a + 5) i))
def safeV (p z : Int64) (FB FP : Nat → Int64) (K : Nat) : Bool := decide (p &&& z = 0) && (List.range K).all (fun i => decide (p &&& FB i = 0) || decide (¬ p &&& FP i = 0))
def withinV (p : Int64) (T : Nat → Int64) (K : Nat) : Bool := (List.range K).any (fun i => decide (p &&& (T i ^^^ -1) = 0))
def heldL (p : Int64) (T : Nat → Int64) : Nat → Int64
  | 0 => 0
  | k + 1 => if T k &&& (p ^^^ -1) = 0 then heldL p T k ||| bitL k else heldL p T k
section sheet2
variable {X : xG} {n : Nat} {MI : Nat → Nat → Int32} {ML : Nat → Nat → Int64} {MR : Nat → Nat → Option Nat} {a : Nat}
set_option maxRecDepth 100000 in
theorem c_X7_hasFewest (hA : x_Sh MR a) : Cf X yX7_hasFewest cX7_hasFewest 1 (some .boolean) 1 [.ref a] n SH MI ML MR (some (.int (b2 (hasF (MI a 13))))) MI ML MR := by
  obtain ⟨s0, m1, m2, m3, m5, m7, m8, m10, m12, m17, s1, s2, s3, s4, s5, s6, hal⟩ := hA
  refine Ct_of (by decide) (Nat.le_of_ble_eq_true rfl) (fun G hG => ?_)
  refine r_aload_n 0 rfl dX7_hasFewest_0 ?_
  refine r_geti dX7_hasFewest_1 fl_X7_102 s0 ?_
  refine r_iflt (tgt := 19) dX7_hasFewest_4 (by decide) (fun zh4 => ?_) (fun zh4 => ?_)
  · refine r_iconst (v := 0) rfl dX7_hasFewest_19 ?_
    exact r_zret hG dX7_hasFewest_20 (rfl) (⟨by simp_all [b2, hasF], rfl, rfl, rfl⟩)
  · refine r_aload_n 0 rfl dX7_hasFewest_7 ?_
    refine r_geti dX7_hasFewest_8 fl_X7_102 s0 ?_
    refine r_iconst (v := 5) rfl dX7_hasFewest_11 ?_
    refine r_icmpgt (tgt := 19) dX7_hasFewest_12 (by decide) (fun zh12 => ?_) (fun zh12 => ?_)
    · refine r_iconst (v := 0) rfl dX7_hasFewest_19 ?_
      exact r_zret hG dX7_hasFewest_20 (rfl) (⟨by simp_all [b2, hasF], rfl, rfl, rfl⟩)
    · refine r_iconst (v := 1) rfl dX7_hasFewest_15 ?_
      refine r_goto (tgt := 20) dX7_hasFewest_16 (by decide) ?_
      exact r_zret hG dX7_hasFewest_20 (rfl) (⟨by simp_all [b2, hasF], rfl, rfl, rfl⟩)
set_option maxRecDepth 100000 in
theorem c_X7_chosenCube (hA : x_Sh MR a) {x : Int32} : Cf X yX7_chosenCube cX7_chosenCube 2 (some .int) 2 [.ref a, .int x] n SH MI ML MR (some (.int (pickV (MI (a + 4)) 240 (pickV (MI (a + 5)) 5 x)))) MI ML MR := by
  obtain ⟨s0, m1, m2, m3, m5, m7, m8, m10, m12, m17, s1, s2, s3, s4, s5, s6, hal⟩ := hA
  refine Ct_of (by decide) (Nat.le_of_ble_eq_true rfl) (fun G hG => ?_)
  refine r_aload_n 0 rfl dX7_chosenCube_0 ?_
  refine r_getr dX7_chosenCube_1 fl_X7_22 s0 m10 ?_
  refine r_aload_n 0 rfl dX7_chosenCube_4 ?_
  refine r_getr dX7_chosenCube_5 fl_X7_27 s0 m12 ?_
  refine r_iload_n 1 rfl dX7_chosenCube_8 ?_
  refine r_Sf [.ref _, .int _] dX7_chosenCube_9 lk_X7_68 mb_X10_pick sc_X10_pick rfl (c_X10_pick (N := 5) s5 (by decide)) rfl (Nat.le_of_ble_eq_true rfl) (rfl) ?_
  refine r_Sf [.ref _, .int _] dX7_chosenCube_12 lk_X7_68 mb_X10_pick sc_X10_pick rfl (c_X10_pick (N := 240) s4 (by decide)) rfl (Nat.le_of_ble_eq_true rfl) (rfl) ?_
  exact r_iret hG dX7_chosenCube_15 (⟨rfl, rfl, rfl, rfl⟩)
set_option maxRecDepth 100000 in
theorem c_X7_runWith (hM : x_Lay MR) (hA0 : x_Sh MR a) {kn : Int64} {K : Nat} (hK : K ≤ 5) (hf : MI a 13 = nI K) : Cf X yX7_runWith cX7_runWith 5 (some .int) 3 [.ref a, .long kn] n SH MI ML MR (some (.int (runV (choP MI ML a) kn K))) MI ML MR := by
  have hA := hA0
  obtain ⟨s0, m1, m2, m3, m5, m7, m8, m10, m12, m17, s1, s2, s3, s4, s5, s6, hal⟩ := hA
  refine Ct_of (by decide) (Nat.le_of_ble_eq_true rfl) (fun G hG => ?_)
  have loop : ∀ i, i ≤ K → RW X G RX7 cX7_runWith 5 (x_rm 3 0 0) n SH MI ML MR 0 0 5 [(4, .int (nI i)), (3, .int (runV (choP MI ML a) kn i)), (0, .ref a), (1, .long kn)] [] := by
    refine bwd (fun i hi ih => ?_)
    refine r_iload 0 rfl dX7_runWith_5 ?_
    refine r_aload_n 2 rfl dX7_runWith_7 ?_
    refine r_geti dX7_runWith_8 fl_X7_102 s0 ?_
    refine r_icmpge (tgt := 48) dX7_runWith_11 (by decide) (fun zh11 => ?_) (fun zh11 => ?_)
    · rw [hf] at zh11
      obtain rfl : i = K := by have := geL (k := K) (by omega) (by omega) zh11; omega
      refine r_iload_n 1 rfl dX7_runWith_48 ?_
      exact r_iret hG dX7_runWith_49 (⟨rfl, rfl, rfl, rfl⟩)
    · rw [hf] at zh11
      have hlt : i < K := ltL (by omega) zh11
      refine r_iload 0 rfl dX7_runWith_14 ?_
      refine r_iconst (v := 5) rfl dX7_runWith_16 ?_
      refine r_icmpge (tgt := 48) dX7_runWith_17 (by decide) (fun zh17 => ?_) (fun zh17 => ?_)
      · exact absurd zh17 (fun q => absurd (geL (k := 5) (by decide) (by omega) q) (by omega))
      refine r_iload_n 1 rfl dX7_runWith_20 ?_
      refine r_aload_n 2 rfl dX7_runWith_21 ?_
      refine r_getr dX7_runWith_22 fl_X7_41 s0 m2 ?_
      refine r_aload_n 2 rfl dX7_runWith_25 ?_
      refine r_iload 0 rfl dX7_runWith_26 ?_
      refine r_Vf [.int _] dX7_runWith_28 lk_X7_116 mb_X7_chosenCube in_X7_chosenCube se_X7_chosenCube rfl (c_X7_chosenCube hA0) s0 rfl rfl (Nat.le_of_ble_eq_true rfl) (rfl) ?_
      refine r_Vf [.int _] dX7_runWith_31 lk_X7_72 mb_X2_pointsOf in_X2_pointsOf se_X2_pointsOf rfl (c_X2_pointsOf hM) rfl rfl rfl (Nat.le_of_ble_eq_true rfl) (rfl) ?_
      refine r_lload_n 3 rfl dX7_runWith_34 ?_
      refine r_Sf [.long _, .long _] dX7_runWith_35 lk_X7_120 mb_X10_product sc_X10_product rfl (c_X10_product) rfl (Nat.le_of_ble_eq_true rfl) (rfl) ?_
      refine r_Sf [.int _, .int _] dX7_runWith_38 lk_X7_124 mb_X10_stronger sc_X10_stronger rfl (c_X10_stronger) rfl (Nat.le_of_ble_eq_true rfl) (rfl) ?_
      refine r_nmi (fun zv41 ze41 => ?_)
      refine r_istore_n (ls2 := [(3, .int zv41), (4, .int (nI i)), (0, .ref a), (1, .long kn)]) dX7_runWith_41 (by decide) rfl ?_
      refine r_iinc (v := (nI (i + 1))) (ls2 := [(4, .int (nI (i + 1))), (3, .int zv41), (0, .ref a), (1, .long kn)]) 1 dX7_runWith_42 rfl (x_inc i) (by decide) rfl ?_
      refine r_goto (tgt := 5) dX7_runWith_45 (by decide) ?_
      obtain rfl : zv41 = runV (choP MI ML a) kn (i + 1) := by rw [ze41, pickV_nI _ (show i < 5 by omega) (by decide)]; rfl
      exact r_sub [0, 1, 2, 3] rfl (ih hlt)
  refine r_iconst (v := 0) rfl dX7_runWith_0 ?_
  refine r_istore_n (ls2 := [(3, .int 0), (0, .ref a), (1, .long kn)]) dX7_runWith_1 (by decide) rfl ?_
  refine r_iconst (v := 0) rfl dX7_runWith_2 ?_
  refine r_istore (ls2 := [(4, .int 0), (3, .int 0), (0, .ref a), (1, .long kn)]) dX7_runWith_3 (by decide) rfl ?_
  exact r_sub [0, 1, 2, 3] rfl (loop 0 (by omega))
set_option maxRecDepth 100000 in
theorem c_X7_valueAt (hM : x_Lay MR) (hA0 : x_Sh MR a) {x : Int32} {K : Nat} (hK : K ≤ 5) (hf : MI a 13 = nI K) : Cf X yX7_valueAt cX7_valueAt 2 (some .int) 4 [.ref a, .int x] n SH MI ML MR (some (.int (if runV (choP MI ML a) (ptL x) K = 1 then 1 else 0))) MI ML MR := by
  have hA := hA0
  obtain ⟨s0, m1, m2, m3, m5, m7, m8, m10, m12, m17, s1, s2, s3, s4, s5, s6, hal⟩ := hA
  refine Ct_of (by decide) (Nat.le_of_ble_eq_true rfl) (fun G hG => ?_)
  refine r_aload_n 0 rfl dX7_valueAt_0 ?_
  refine r_lconst (v := 1) rfl dX7_valueAt_1 ?_
  refine r_iload_n 1 rfl dX7_valueAt_2 ?_
  refine r_lshl dX7_valueAt_3 ?_
  refine r_Vf [.long _] dX7_valueAt_4 lk_X7_112 mb_X7_runWith in_X7_runWith se_X7_runWith rfl (c_X7_runWith hM hA0 hK hf (kn := ptL x)) s0 rfl rfl (Nat.le_of_ble_eq_true rfl) (rfl) ?_
  refine r_iconst (v := 1) rfl dX7_valueAt_7 ?_
  refine r_icmpne (tgt := 15) dX7_valueAt_8 (by decide) (fun zh8 => ?_) (fun zh8 => ?_)
  · refine r_iconst (v := 0) rfl dX7_valueAt_15 ?_
    exact r_iret hG dX7_valueAt_16 (⟨by simp_all, rfl, rfl, rfl⟩)
  · refine r_iconst (v := 1) rfl dX7_valueAt_11 ?_
    refine r_goto (tgt := 16) dX7_valueAt_12 (by decide) ?_
    exact r_iret hG dX7_valueAt_16 (⟨by simp_all, rfl, rfl, rfl⟩)
set_option maxRecDepth 100000 in
theorem c_X7_isSafe (hM : x_Lay MR) (hA0 : x_Sh MR a) {p : Int64} {f K : Nat} (hf5 : f < 5) (hf : MI a 0 = nI f) (hK : K ≤ 8) (hc : MI a 9 = nI K) : Cf X yX7_isSafe cX7_isSafe 4 (some .boolean) 2 [.ref a, .long p] n SH MI ML MR (some (.int (b2 (safeV p (ML 49 f) (ML (a + 2)) (ML (a + 3)) K)))) MI ML MR := by
  have hA := hA0
  obtain ⟨s0, m1, m2, m3, m5, m7, m8, m10, m12, m17, s1, s2, s3, s4, s5, s6, hal⟩ := hA
  refine Ct_of (by decide) (Nat.le_of_ble_eq_true rfl) (fun G hG => ?_)
  have hz : (if inR (MI a 0) 5 = true then ML 49 (MI a 0).toNatClampNeg else 0) = ML 49 f := by
    rw [hf, if_pos (show inR (nI f) 5 = true from inR_nI (N := 5) hf5 (by decide)), nI_clamp (by omega)]
  have loop : p &&& ML 49 f = 0 → ∀ i, i ≤ K → (∀ k, k < i → (decide (p &&& ML (a + 2) k = 0) || decide (¬ p &&& ML (a + 3) k = 0)) = true) → RW X G RX7 cX7_isSafe 4 (x_rm 2 0 0) n SH MI ML MR 0 0 25 [(3, .int (nI i)), (0, .ref a), (1, .long p)] [] := by
    intro h0
    refine bwd (fun i hi ih hk => ?_)
    have hbad : i < K → p &&& ML (a + 2) i ≠ 0 → p &&& ML (a + 3) i = 0 → safeV p (ML 49 f) (ML (a + 2)) (ML (a + 3)) K = false := fun hlt h1 h2 => by
      cases hs : safeV p (ML 49 f) (ML (a + 2)) (ML (a + 3)) K with
      | false => rfl
      | true =>
        unfold safeV at hs
        rw [Bool.and_eq_true, List.all_eq_true] at hs
        have := hs.2 i (List.mem_range.mpr hlt)
        simp_all
    have hgood : i = K → safeV p (ML 49 f) (ML (a + 2)) (ML (a + 3)) K = true := fun e => by
      unfold safeV
      rw [Bool.and_eq_true, List.all_eq_true]
      exact ⟨decide_eq_true h0, fun k hk2 => hk k (by rw [e]; exact List.mem_range.mp hk2)⟩
    have hstep : (decide (p &&& ML (a + 2) i = 0) || decide (¬ p &&& ML (a + 3) i = 0)) = true → ∀ k, k < i + 1 → (decide (p &&& ML (a + 2) k = 0) || decide (¬ p &&& ML (a + 3) k = 0)) = true := fun hb k hk2 => by
      rcases Nat.lt_or_ge k i with q | q
      · exact hk k q
      · obtain rfl : k = i := by omega
        exact hb
    refine r_iload_n 0 rfl dX7_isSafe_25 ?_
    refine r_aload_n 1 rfl dX7_isSafe_26 ?_
    refine r_geti dX7_isSafe_27 fl_X7_159 s0 ?_
    refine r_icmpge (tgt := 73) dX7_isSafe_30 (by decide) (fun zh30 => ?_) (fun zh30 => ?_)
    · rw [hc] at zh30
      have hiK : i = K := by have := geL (k := K) (by omega) (by omega) zh30; omega
      refine r_iconst (v := 1) rfl dX7_isSafe_73 ?_
      exact r_zret hG dX7_isSafe_74 (rfl) (⟨by rw [hgood hiK]; rfl, rfl, rfl, rfl⟩)
    · rw [hc] at zh30
      have hlt : i < K := ltL (by omega) zh30
      refine r_iload_n 0 rfl dX7_isSafe_33 ?_
      refine r_bipush (v := 8) rfl dX7_isSafe_34 ?_
      refine r_icmpge (tgt := 73) dX7_isSafe_36 (by decide) (fun zh36 => ?_) (fun zh36 => ?_)
      · exact absurd zh36 (fun q => absurd (geL (k := 8) (by decide) (by omega) q) (by omega))
      refine r_lload_n 2 rfl dX7_isSafe_39 ?_
      refine r_aload_n 1 rfl dX7_isSafe_40 ?_
      refine r_getr dX7_isSafe_41 fl_X7_15 s0 m7 ?_
      refine r_iload_n 0 rfl dX7_isSafe_44 ?_
      refine r_lald dX7_isSafe_45 s2 (vp_in_nI (show i < 8 by omega) (by decide)) ?_
      refine r_land dX7_isSafe_46 ?_
      refine r_lconst (v := 0) rfl dX7_isSafe_47 ?_
      refine r_lcmp dX7_isSafe_48 ?_
      refine r_ifeq (tgt := 67) dX7_isSafe_49 (by decide) (fun zh49 => ?_) (fun zh49 => ?_)
      · try rw [lcmp_eq, nI_clamp (by omega)] at zh49
        try rw [lcmp_eq, nI_clamp (by omega)] at zh62
        refine r_iinc (v := (nI (i + 1))) (ls2 := [(3, .int (nI (i + 1))), (0, .ref a), (1, .long p)]) 0 dX7_isSafe_67 rfl (x_inc i) (by decide) rfl ?_
        refine r_goto (tgt := 25) dX7_isSafe_70 (by decide) ?_
        exact ih hlt (hstep (by simp_all))
      · rw [lcmp_eq, nI_clamp (by omega)] at zh49
        refine r_lload_n 2 rfl dX7_isSafe_52 ?_
        refine r_aload_n 1 rfl dX7_isSafe_53 ?_
        refine r_getr dX7_isSafe_54 fl_X7_19 s0 m8 ?_
        refine r_iload_n 0 rfl dX7_isSafe_57 ?_
        refine r_lald dX7_isSafe_58 s3 (vp_in_nI (show i < 8 by omega) (by decide)) ?_
        refine r_land dX7_isSafe_59 ?_
        refine r_lconst (v := 0) rfl dX7_isSafe_60 ?_
        refine r_lcmp dX7_isSafe_61 ?_
        refine r_ifne (tgt := 67) dX7_isSafe_62 (by decide) (fun zh62 => ?_) (fun zh62 => ?_)
        · try rw [lcmp_eq, nI_clamp (by omega)] at zh49
          try rw [lcmp_eq, nI_clamp (by omega)] at zh62
          refine r_iinc (v := (nI (i + 1))) (ls2 := [(3, .int (nI (i + 1))), (0, .ref a), (1, .long p)]) 0 dX7_isSafe_67 rfl (x_inc i) (by decide) rfl ?_
          refine r_goto (tgt := 25) dX7_isSafe_70 (by decide) ?_
          exact ih hlt (hstep (by simp_all))
        · rw [lcmp_eq, nI_clamp (by omega)] at zh62
          refine r_iconst (v := 0) rfl dX7_isSafe_65 ?_
          exact r_zret hG dX7_isSafe_66 (rfl) (⟨by rw [hbad hlt zh49 zh62]; rfl, rfl, rfl, rfl⟩)
  refine r_lload_n 1 rfl dX7_isSafe_0 ?_
  refine r_aload_n 0 rfl dX7_isSafe_1 ?_
  refine r_getr dX7_isSafe_2 fl_X7_37 s0 m1 ?_
  refine r_getr dX7_isSafe_5 fl_X7_172 rfl (hM _ _ _ rfl) ?_
  refine r_aload_n 0 rfl dX7_isSafe_8 ?_
  refine r_geti dX7_isSafe_9 fl_X7_33 s0 ?_
  refine r_Vf [.int _] dX7_isSafe_12 lk_X7_176 mb_X3_zerosOf in_X3_zerosOf se_X3_zerosOf rfl (c_X3_zerosOf (De48 hM)) rfl rfl rfl (Nat.le_of_ble_eq_true rfl) (rfl) ?_
  refine r_land dX7_isSafe_15 ?_
  refine r_lconst (v := 0) rfl dX7_isSafe_16 ?_
  refine r_lcmp dX7_isSafe_17 ?_
  refine r_ifeq (tgt := 23) dX7_isSafe_18 (by decide) (fun zh18 => ?_) (fun zh18 => ?_)
  · rw [lcmp_eq, hz] at zh18
    refine r_iconst (v := 0) rfl dX7_isSafe_23 ?_
    refine r_istore_n (ls2 := [(3, .int 0), (0, .ref a), (1, .long p)]) dX7_isSafe_24 (by decide) rfl ?_
    exact loop zh18 0 (by omega) (fun k hk => absurd hk (Nat.not_lt_zero k))
  · rw [lcmp_eq, hz] at zh18
    refine r_iconst (v := 0) rfl dX7_isSafe_21 ?_
    exact r_zret hG dX7_isSafe_22 (rfl) (⟨by unfold safeV; rw [decide_eq_false zh18]; rfl, rfl, rfl, rfl⟩)
set_option maxRecDepth 100000 in
theorem c_X7_liesWithinPrime (hM : x_Lay MR) (hA0 : x_Sh MR a) {p : Int64} {K : Nat} (hK : K ≤ 240) (hc : MI a 11 = nI K) : Cf X yX7_liesWithinPrime cX7_liesWithinPrime 4 (some .boolean) 2 [.ref a, .long p] n SH MI ML MR (some (.int (b2 (withinV p (fun i => ptsV ML (MI (a + 4) i)) K)))) MI ML MR := by
  have hA := hA0
  obtain ⟨s0, m1, m2, m3, m5, m7, m8, m10, m12, m17, s1, s2, s3, s4, s5, s6, hal⟩ := hA
  refine Ct_of (by decide) (Nat.le_of_ble_eq_true rfl) (fun G hG => ?_)
  have loop : ∀ i, i ≤ K → (∀ k, k < i → ¬ p &&& (ptsV ML (MI (a + 4) k) ^^^ -1) = 0) → RW X G RX7 cX7_liesWithinPrime 4 (x_rm 2 0 0) n SH MI ML MR 0 0 2 [(3, .int (nI i)), (0, .ref a), (1, .long p)] [] := by
    refine bwd (fun i hi ih hk => ?_)
    refine r_iload_n 0 rfl dX7_liesWithinPrime_2 ?_
    refine r_aload_n 1 rfl dX7_liesWithinPrime_3 ?_
    refine r_geti dX7_liesWithinPrime_4 fl_X7_65 s0 ?_
    refine r_icmpge (tgt := 44) dX7_liesWithinPrime_7 (by decide) (fun zh7 => ?_) (fun zh7 => ?_)
    · rw [hc] at zh7
      have hiK : i = K := by have := geL (k := K) (by omega) (by omega) zh7; omega
      refine r_iconst (v := 0) rfl dX7_liesWithinPrime_44 ?_
      exact r_zret hG dX7_liesWithinPrime_45 (rfl) (⟨by rw [show withinV p (fun i => ptsV ML (MI (a + 4) i)) K = false from List.any_eq_false.mpr (fun k hk2 q => hk k (by rw [hiK]; exact List.mem_range.mp hk2) (of_decide_eq_true q))]; rfl, rfl, rfl, rfl⟩)
    · rw [hc] at zh7
      have hlt : i < K := ltL (by omega) zh7
      refine r_lload_n 2 rfl dX7_liesWithinPrime_10 ?_
      refine r_aload_n 1 rfl dX7_liesWithinPrime_11 ?_
      refine r_getr dX7_liesWithinPrime_12 fl_X7_41 s0 m2 ?_
      refine r_aload_n 1 rfl dX7_liesWithinPrime_15 ?_
      refine r_getr dX7_liesWithinPrime_16 fl_X7_22 s0 m10 ?_
      refine r_iload_n 0 rfl dX7_liesWithinPrime_19 ?_
      refine r_Sf [.ref _, .int _] dX7_liesWithinPrime_20 lk_X7_68 mb_X10_pick sc_X10_pick rfl (c_X10_pick (N := 240) s4 (by decide)) rfl (Nat.le_of_ble_eq_true rfl) (rfl) ?_
      refine r_Vf [.int _] dX7_liesWithinPrime_23 lk_X7_72 mb_X2_pointsOf in_X2_pointsOf se_X2_pointsOf rfl (c_X2_pointsOf hM) rfl rfl rfl (Nat.le_of_ble_eq_true rfl) (rfl) ?_
      refine r_ldc2 kl_X7_188 dX7_liesWithinPrime_26 ?_
      refine r_lxor dX7_liesWithinPrime_29 ?_
      refine r_land dX7_liesWithinPrime_30 ?_
      refine r_lconst (v := 0) rfl dX7_liesWithinPrime_31 ?_
      refine r_lcmp dX7_liesWithinPrime_32 ?_
      refine r_ifne (tgt := 38) dX7_liesWithinPrime_33 (by decide) (fun zh33 => ?_) (fun zh33 => ?_)
      · rw [lcmp_eq, pickV_nI _ (show i < 240 by omega) (by decide)] at zh33
        refine r_iinc (v := (nI (i + 1))) (ls2 := [(3, .int (nI (i + 1))), (0, .ref a), (1, .long p)]) 0 dX7_liesWithinPrime_38 rfl (x_inc i) (by decide) rfl ?_
        refine r_goto (tgt := 2) dX7_liesWithinPrime_41 (by decide) ?_
        refine ih hlt (fun k hk2 => ?_)
        rcases Nat.lt_or_ge k i with q | q
        · exact hk k q
        · obtain rfl : k = i := by omega
          exact zh33
      · rw [lcmp_eq, pickV_nI _ (show i < 240 by omega) (by decide)] at zh33
        refine r_iconst (v := 1) rfl dX7_liesWithinPrime_36 ?_
        exact r_zret hG dX7_liesWithinPrime_37 (rfl) (⟨by rw [show withinV p (fun i => ptsV ML (MI (a + 4) i)) K = true from List.any_eq_true.mpr ⟨i, List.mem_range.mpr hlt, decide_eq_true zh33⟩]; rfl, rfl, rfl, rfl⟩)
  refine r_iconst (v := 0) rfl dX7_liesWithinPrime_0 ?_
  refine r_istore_n (ls2 := [(3, .int 0), (0, .ref a), (1, .long p)]) dX7_liesWithinPrime_1 (by decide) rfl ?_
  exact loop 0 (by omega) (fun k hk => absurd hk (Nat.not_lt_zero k))
set_option maxRecDepth 100000 in
theorem c_X7_heldWithin (hM : x_Lay MR) (hA0 : x_Sh MR a) {p : Int64} {K : Nat} (hK : K ≤ 33) (hc : MI a 6 = nI K) : Cf X yX7_heldWithin cX7_heldWithin 6 (some .long) 2 [.ref a, .long p] n SH MI ML MR (some (.long (heldL p (fun i => ptsV ML (MI (a + 1) i)) K))) MI ML MR := by
  have hA := hA0
  obtain ⟨s0, m1, m2, m3, m5, m7, m8, m10, m12, m17, s1, s2, s3, s4, s5, s6, hal⟩ := hA
  refine Ct_of (by decide) (Nat.le_of_ble_eq_true rfl) (fun G hG => ?_)
  have loop : ∀ i, i ≤ K → RW X G RX7 cX7_heldWithin 6 (x_rm 2 0 0) n SH MI ML MR 0 0 5 [(5, .int (nI i)), (3, .long (heldL p (fun i => ptsV ML (MI (a + 1) i)) i)), (0, .ref a), (1, .long p)] [] := by
    refine bwd (fun i hi ih => ?_)
    refine r_iload 0 rfl dX7_heldWithin_5 ?_
    refine r_aload_n 2 rfl dX7_heldWithin_7 ?_
    refine r_geti dX7_heldWithin_8 fl_X7_58 s0 ?_
    refine r_icmpge (tgt := 54) dX7_heldWithin_11 (by decide) (fun zh11 => ?_) (fun zh11 => ?_)
    · rw [hc] at zh11
      obtain rfl : i = K := by have := geL (k := K) (by omega) (by omega) zh11; omega
      refine r_lload_n 1 rfl dX7_heldWithin_54 ?_
      exact r_lret hG dX7_heldWithin_55 (⟨rfl, rfl, rfl, rfl⟩)
    · rw [hc] at zh11
      have hlt : i < K := ltL (by omega) zh11
      refine r_aload_n 2 rfl dX7_heldWithin_14 ?_
      refine r_getr dX7_heldWithin_15 fl_X7_41 s0 m2 ?_
      refine r_aload_n 2 rfl dX7_heldWithin_18 ?_
      refine r_getr dX7_heldWithin_19 fl_X7_11 s0 m5 ?_
      refine r_iload 0 rfl dX7_heldWithin_22 ?_
      refine r_Sf [.ref _, .int _] dX7_heldWithin_24 lk_X7_68 mb_X10_pick sc_X10_pick rfl (c_X10_pick (N := 33) s1 (by decide)) rfl (Nat.le_of_ble_eq_true rfl) (rfl) ?_
      refine r_Vf [.int _] dX7_heldWithin_27 lk_X7_72 mb_X2_pointsOf in_X2_pointsOf se_X2_pointsOf rfl (c_X2_pointsOf hM) rfl rfl rfl (Nat.le_of_ble_eq_true rfl) (rfl) ?_
      refine r_lload_n 3 rfl dX7_heldWithin_30 ?_
      refine r_ldc2 kl_X7_188 dX7_heldWithin_31 ?_
      refine r_lxor dX7_heldWithin_34 ?_
      refine r_land dX7_heldWithin_35 ?_
      refine r_lconst (v := 0) rfl dX7_heldWithin_36 ?_
      refine r_lcmp dX7_heldWithin_37 ?_
      refine r_ifne (tgt := 48) dX7_heldWithin_38 (by decide) (fun zh38 => ?_) (fun zh38 => ?_)
      · try rw [lcmp_eq, pickV_nI _ (show i < 33 by omega) (by decide)] at zh38
        refine r_iinc (v := (nI (i + 1))) (ls2 := [(5, .int (nI (i + 1))), (3, .long (heldL p (fun i => ptsV ML (MI (a + 1) i)) i)), (0, .ref a), (1, .long p)]) 0 dX7_heldWithin_48 rfl (x_inc i) (by decide) rfl ?_
        refine r_goto (tgt := 5) dX7_heldWithin_51 (by decide) ?_
        have q := ih hlt
        first
          | (rw [show heldL p (fun i => ptsV ML (MI (a + 1) i)) (i + 1) = heldL p (fun i => ptsV ML (MI (a + 1) i)) i ||| bitL i from if_pos zh38] at q; obtain rfl : zv47 = heldL p (fun i => ptsV ML (MI (a + 1) i)) i ||| bitL i := ze47; exact r_sub [0, 1, 2, 3] rfl q)
          | (rw [show heldL p (fun i => ptsV ML (MI (a + 1) i)) (i + 1) = heldL p (fun i => ptsV ML (MI (a + 1) i)) i from if_neg zh38] at q; exact r_sub [0, 1, 2, 3] rfl q)
      · rw [lcmp_eq, pickV_nI _ (show i < 33 by omega) (by decide)] at zh38
        refine r_lload_n 1 rfl dX7_heldWithin_41 ?_
        refine r_lconst (v := 1) rfl dX7_heldWithin_42 ?_
        refine r_iload 0 rfl dX7_heldWithin_43 ?_
        refine r_lshl dX7_heldWithin_45 ?_
        refine r_lor dX7_heldWithin_46 ?_
        refine r_nml (fun zv47 ze47 => ?_)
        refine r_lstore_n (ls2 := [(3, .long zv47), (5, .int (nI i)), (0, .ref a), (1, .long p)]) dX7_heldWithin_47 (by decide) rfl ?_
        try rw [lcmp_eq, pickV_nI _ (show i < 33 by omega) (by decide)] at zh38
        refine r_iinc (v := (nI (i + 1))) (ls2 := [(5, .int (nI (i + 1))), (3, .long zv47), (0, .ref a), (1, .long p)]) 1 dX7_heldWithin_48 rfl (x_inc i) (by decide) rfl ?_
        refine r_goto (tgt := 5) dX7_heldWithin_51 (by decide) ?_
        have q := ih hlt
        first
          | (rw [show heldL p (fun i => ptsV ML (MI (a + 1) i)) (i + 1) = heldL p (fun i => ptsV ML (MI (a + 1) i)) i ||| bitL i from if_pos zh38] at q; obtain rfl : zv47 = heldL p (fun i => ptsV ML (MI (a + 1) i)) i ||| bitL i := ze47; exact r_sub [0, 1, 2, 3] rfl q)
          | (rw [show heldL p (fun i => ptsV ML (MI (a + 1) i)) (i + 1) = heldL p (fun i => ptsV ML (MI (a + 1) i)) i from if_neg zh38] at q; exact r_sub [0, 1, 2, 3] rfl q)
  refine r_lconst (v := 0) rfl dX7_heldWithin_0 ?_
  refine r_lstore_n (ls2 := [(3, .long 0), (0, .ref a), (1, .long p)]) dX7_heldWithin_1 (by decide) rfl ?_
  refine r_iconst (v := 0) rfl dX7_heldWithin_2 ?_
  refine r_istore (ls2 := [(5, .int 0), (3, .long 0), (0, .ref a), (1, .long p)]) dX7_heldWithin_3 (by decide) rfl ?_
  exact r_sub [0, 1, 2, 3] rfl (loop 0 (by omega))
end sheet2

/-! the desk: what is shown, safe, last -/
def shB5 (W : Mi) (B : Nat → Nat → Int64) (p : Int32) : Nat → Int32
  | 0 => 0
  | k + 1 => shB5 W B p k ||| (vlV W B k p <<< (nI k &&& 31))
def shPt (W : Mi) : Int32 := pointV (W 44) (W 2) (W 85 1) ^^^ W 85 2
/-- what shown() leaves -/
def shwQ (MI : Mi) (ML : Nat → Nat → Int64) (MR : Nat → Nat → Option Nat) (A : Nat) : xQ := fun r W B C => C = MR ∧ shE MI ML A W B ∧ (¬ machTr MI = 0 → r = some (.int (-1)) ∧ W 0 8 = machTr MI) ∧ (machTr MI = 0 → W 0 8 = 0 ∧ ((∃ f, f < 5 ∧ (∀ g, g < f → W (89 + 7 * g) 4 = 1 ∧ hasF (W (89 + 7 * g) 13) = true) ∧ W (89 + 7 * f) 4 = 1 ∧ hasF (W (89 + 7 * f) 13) = false ∧ r = some (.int (-2))) ∨ ((∀ g, g < 5 → W (89 + 7 * g) 4 = 1 ∧ hasF (W (89 + 7 * g) 13) = true) ∧ r = some (.int (shB5 W B (shPt MI) 5)))))
theorem vlV_cg {W W2 : Mi} {B B2 : Nat → Nat → Int64} {f : Nat} (h1 : ∀ b, 89 + 7 * f ≤ b → b ≤ 89 + 7 * f + 6 → W2 b = W b) (h2 : B2 58 = B 58) (p : Int32) : vlV W2 B2 f p = vlV W B f p := by
  unfold vlV rsV sK choP ptsV
  rw [h1 _ (Nat.le_refl _) (by omega), h1 (89 + 7 * f + 4) (by omega) (by omega), h1 (89 + 7 * f + 5) (by omega) (by omega), h2]
theorem shB5_cg {W W2 : Mi} {B B2 : Nat → Nat → Int64} (h2 : B2 58 = B 58) (p : Int32) : ∀ k, (∀ g, g < k → ∀ b, 89 + 7 * g ≤ b → b ≤ 89 + 7 * g + 6 → W2 b = W b) → shB5 W2 B2 p k = shB5 W B p k
  | 0, _ => rfl
  | k + 1, h => by rw [shB5, shB5, shB5_cg h2 p k (fun g hg => h g (by omega)), vlV_cg (h k (by omega)) h2]
def saAns (MI : Mi) (ML : Nat → Nat → Int64) (A : Nat) (x y : Int32) : Int32 × Int32 := if funTr MI x = 0 then (if inR y 729 = true then (b2 (safeV (ptsV ML y) (ML 49 x.toNatClampNeg) (zR MI ML A x.toNatClampNeg).2.1 (zR MI ML A x.toNatClampNeg).2.2 (zR MI ML A x.toNatClampNeg).1), 0) else (-1, 2)) else (-1, funTr MI x)
def lstC (Lf : Nat → Bool) : Nat → Nat → Int32 → Option Nat
  | 0, _, _ => none
  | k + 1, s, left => if Lf s = true then lstC Lf k (s + 1) left else if left = 0 then some s else lstC Lf k (s + 1) (left + Int32.ofInt (-1))
section class5
variable {X : xG} {n : Nat} {MI : Nat → Nat → Int32} {ML : Nat → Nat → Int64} {MR : Nat → Nat → Option Nat}
set_option maxRecDepth 100000 in
theorem c_X10_shown (hM : x_Lay MR) (hS2 : x_S2 X) {A : Nat} (hA : A ≤ 8) (hAr : MI 1 6 = nI A) (hI : shI MI ML A) : Ct X yX10_shown cX10_shown 6 (some .int) 12 0 0 [.ref 0] n SH MI ML MR n SH (shwQ MI ML MR A) := by
  refine Ct_of (by decide) (Nat.le_of_ble_eq_true rfl) (fun G hG => ?_)
  by_cases h1 : machTr MI = 0
  · obtain ⟨p, hp⟩ : ∃ p, p = shPt MI := ⟨_, rfl⟩
    have loop : ∀ f, f ≤ 5 → ∀ zW zB, shE MI ML A zW zB → (∀ g, g < f → zW (89 + 7 * g) 4 = 1 ∧ hasF (zW (89 + 7 * g) 13) = true) → ∀ ls5, ls5 = ([(0, .ref 0), (1, .int (machTr MI))] : List (Nat × Value)) → RW X G RX10 cX10_shown 6 (x_rm 12 0 0) n SH zW zB MR 0 0 50 ([(4, .int (nI f)), (3, .int (shB5 zW zB p f)), (2, .int p)] ++ ls5) [] := by
      refine bwd (fun f hfl ih zW zB hE hall ls5 hls => ?_)
      subst hls
      have hAW := shE_A hE hAr
      refine r_iload 0 rfl dX10_shown_50 ?_
      refine r_iconst (v := 5) rfl dX10_shown_52 ?_
      refine r_icmpge (tgt := 97) dX10_shown_53 (by decide) (fun zh53 => ?_) (fun zh53 => ?_)
      · have hfe : f = 5 := by have := geL (k := 5) (by decide) (by omega) zh53; omega
        refine r_aload_n 3 rfl dX10_shown_97 ?_
        refine r_iload_n 1 rfl dX10_shown_98 ?_
        refine r_Vf [.int _] dX10_shown_99 lk_X10_115 mb_X10_told in_X10_told se_X10_told rfl (c_X10_told) rfl rfl rfl (Nat.le_of_ble_eq_true rfl) (rfl) ?_
        exact r_iret hG dX10_shown_102 (by
            have e : ∀ b, b ≠ 0 → u2 zW 0 8 0 b = zW b := fun b h => u2_row _ _ h
            refine ⟨rfl, shE_w hE, fun q => absurd h1 q, fun _ => ⟨u2_eq _ _ _ _, Or.inr ⟨fun g hg => ?_, ?_⟩⟩⟩
            · rw [e _ (by omega)]; exact hall g (by omega)
            · rw [shB5_cg (W := zW) (W2 := u2 zW 0 8 0) rfl (shPt MI) 5 (fun g hg b h1 h2 => e b (by omega)), hfe, hp])
      · have hf : f < 5 := ltL (by omega) zh53
        refine r_aload_n 3 rfl dX10_shown_56 ?_
        refine r_iload 0 rfl dX10_shown_57 ?_
        refine r_Vg [.int _] dX10_shown_59 lk_X10_194 mb_X10_sheetOf in_X10_sheetOf se_X10_sheetOf rfl (c_X10_sheetOf hM hS2 hA hAW hE.2.2.2.2.2.1 hf) rfl rfl rfl (Nat.le_of_ble_eq_true rfl) (rfl) (fun r zW2 zB2 zC hz => ?_)
        obtain ⟨rfl, rfl, zE2, z0, z4, -⟩ := hz
        have zE3 := shE_tr hE zE2
        have zkeep : ∀ g, g < f → ∀ b, 89 + 7 * g ≤ b → b ≤ 89 + 7 * g + 6 → zW2 b = zW b := fun g hg b h1 h2 => (zE2.2.2.2.2.1 g (by omega) (hall g hg).1 b h1 h2).1
        have zall : ∀ g, g < f → zW2 (89 + 7 * g) 4 = 1 ∧ hasF (zW2 (89 + 7 * g) 13) = true := fun g hg => by
          rw [zkeep g hg _ (Nat.le_refl _) (by omega)]
          exact hall g hg
        have z58 : zB2 58 = zB 58 := zE2.2.2.2.1 58 (by decide)
        have zsh := shB5_cg (W := zW) (W2 := zW2) z58 p f zkeep
        show RW X G _ _ _ _ _ _ _ _ _ _ _ _ _ [.ref (89 + 7 * f)]
        refine r_astore (ls2 := [(5, .ref (89 + 7 * f)), (4, .int (nI f)), (3, .int (shB5 zW zB p f)), (2, .int p), (0, .ref 0), (1, .int (machTr MI))]) dX10_shown_62 (by decide) rfl ?_
        refine r_aload 0 rfl dX10_shown_64 ?_
        refine r_Vf [] dX10_shown_66 lk_X10_284 mb_X7_hasFewest in_X7_hasFewest se_X7_hasFewest rfl (c_X7_hasFewest (shOf hM hf)) (shOf hM hf).1 rfl rfl (Nat.le_of_ble_eq_true rfl) (rfl) ?_
        refine r_ifne (tgt := 79) dX10_shown_69 (by decide) (fun zh69 => ?_) (fun zh69 => ?_)
        · have zhf : hasF (zW2 (89 + 7 * f) 13) = true := b2n.mp zh69
          have zk := sK_e zhf
          refine r_iload_n 2 rfl dX10_shown_79 ?_
          refine r_aload 0 rfl dX10_shown_80 ?_
          refine r_iload_n 3 rfl dX10_shown_82 ?_
          refine r_Vf [.int _] dX10_shown_83 lk_X10_287 mb_X7_valueAt in_X7_valueAt se_X7_valueAt rfl (c_X7_valueAt hM (shOf hM hf) zk.1 zk.2) (shOf hM hf).1 rfl rfl (Nat.le_of_ble_eq_true rfl) (rfl) ?_
          refine r_iload 1 rfl dX10_shown_86 ?_
          refine r_ishl dX10_shown_88 ?_
          refine r_ior dX10_shown_89 ?_
          refine r_nmi (fun zv90 ze90 => ?_)
          refine r_istore_n (ls2 := [(3, .int zv90), (5, .ref (89 + 7 * f)), (4, .int (nI f)), (2, .int p), (0, .ref 0), (1, .int (machTr MI))]) dX10_shown_90 (by decide) rfl ?_
          refine r_iinc (v := (nI (f + 1))) (ls2 := [(4, .int (nI (f + 1))), (3, .int zv90), (5, .ref (89 + 7 * f)), (2, .int p), (0, .ref 0), (1, .int (machTr MI))]) 2 dX10_shown_91 rfl (x_inc f) (by decide) rfl ?_
          refine r_goto (tgt := 50) dX10_shown_94 (by decide) ?_
          have zq := ih hf zW2 zB2 zE3 (fun g hg => by
            rcases Nat.lt_or_ge g f with z | z
            · exact zall g z
            · obtain rfl : g = f := by omega
              exact ⟨z4, zhf⟩) _ rfl
          rw [shB5, zsh] at zq
          subst ze90
          exact r_sub [0, 1, 3, 4, 5] rfl zq
        · refine r_aload_n 4 rfl dX10_shown_72 ?_
          refine r_bipush (v := (-2)) rfl dX10_shown_73 ?_
          refine r_Vf [.int _] dX10_shown_75 lk_X10_115 mb_X10_told in_X10_told se_X10_told rfl (c_X10_told) rfl rfl rfl (Nat.le_of_ble_eq_true rfl) (rfl) ?_
          exact r_iret hG dX10_shown_78 (by
              have e : ∀ b, b ≠ 0 → u2 zW2 0 8 0 b = zW2 b := fun b h => u2_row _ _ h
              refine ⟨rfl, shE_w zE3, fun q => absurd h1 q, fun _ => ⟨u2_eq _ _ _ _, Or.inl ⟨f, hf, fun g hg => ?_, ?_, ?_, rfl⟩⟩⟩
              · rw [e _ (by omega)]; exact zall g hg
              · rw [e _ (by omega)]; exact z4
              · rw [e _ (by omega)]; exact b2z.mp zh69)
    refine r_aload_n 0 rfl dX10_shown_0 ?_
    refine r_Vf [] dX10_shown_1 lk_X10_267 mb_X10_machineTrouble in_X10_machineTrouble se_X10_machineTrouble rfl (c_X10_machineTrouble hM) rfl rfl rfl (Nat.le_of_ble_eq_true rfl) (rfl) ?_
    refine r_istore_n (ls2 := [(1, .int (machTr MI)), (0, .ref 0)]) dX10_shown_4 (by decide) rfl ?_
    refine r_iload_n 0 rfl dX10_shown_5 ?_
    refine r_ifeq (tgt := 15) dX10_shown_6 (by decide) (fun zh6 => ?_) (fun zh6 => ?_)
    rotate_left
    · exact absurd zh6 (fun q => q h1)
    refine r_aload_n 1 rfl dX10_shown_15 ?_
    refine r_getr dX10_shown_16 fl_X10_35 rfl (hM _ _ _ rfl) ?_
    refine r_aload_n 1 rfl dX10_shown_19 ?_
    refine r_getr dX10_shown_20 fl_X10_10 rfl (hM _ _ _ rfl) ?_
    refine r_getr dX10_shown_23 fl_X10_136 rfl (hM _ _ _ rfl) ?_
    refine r_aload_n 1 rfl dX10_shown_26 ?_
    refine r_getr dX10_shown_27 fl_X10_64 rfl (hM _ _ _ rfl) ?_
    refine r_geti dX10_shown_30 fl_X10_274 rfl ?_
    refine r_Vf [.ref _, .int _] dX10_shown_33 lk_X10_281 mb_X8_pointIn in_X8_pointIn se_X8_pointIn rfl (c_X8_pointIn hM rfl) rfl rfl rfl (Nat.le_of_ble_eq_true rfl) (rfl) ?_
    refine r_aload_n 1 rfl dX10_shown_36 ?_
    refine r_getr dX10_shown_37 fl_X10_64 rfl (hM _ _ _ rfl) ?_
    refine r_geti dX10_shown_40 fl_X10_278 rfl ?_
    refine r_ixor dX10_shown_43 ?_
    refine r_nmi (fun zy zye => ?_)
    obtain rfl : p = zy := by rw [zye, hp]; rfl
    refine r_istore_n (ls2 := [(2, .int p), (1, .int (machTr MI)), (0, .ref 0)]) dX10_shown_44 (by decide) rfl ?_
    refine r_iconst (v := 0) rfl dX10_shown_45 ?_
    refine r_istore_n (ls2 := [(3, .int 0), (2, .int p), (1, .int (machTr MI)), (0, .ref 0)]) dX10_shown_46 (by decide) rfl ?_
    refine r_iconst (v := 0) rfl dX10_shown_47 ?_
    refine r_istore (ls2 := [(4, .int 0), (3, .int 0), (2, .int p), (1, .int (machTr MI)), (0, .ref 0)]) dX10_shown_48 (by decide) rfl ?_
    exact r_sub [0, 1, 2, 4, 3] rfl (loop 0 (Nat.zero_le _) MI ML (shE_rf hI) (fun g hg => absurd hg (Nat.not_lt_zero g)) _ rfl)
  ·
    refine r_aload_n 0 rfl dX10_shown_0 ?_
    refine r_Vf [] dX10_shown_1 lk_X10_267 mb_X10_machineTrouble in_X10_machineTrouble se_X10_machineTrouble rfl (c_X10_machineTrouble hM) rfl rfl rfl (Nat.le_of_ble_eq_true rfl) (rfl) ?_
    refine r_istore_n (ls2 := [(1, .int (machTr MI)), (0, .ref 0)]) dX10_shown_4 (by decide) rfl ?_
    refine r_iload_n 0 rfl dX10_shown_5 ?_
    refine r_ifeq (tgt := 15) dX10_shown_6 (by decide) (fun zh6 => ?_) (fun zh6 => ?_)
    · exact absurd zh6 (h1)
    refine r_aload_n 1 rfl dX10_shown_9 ?_
    refine r_iload_n 0 rfl dX10_shown_10 ?_
    refine r_Vf [.int _] dX10_shown_11 lk_X10_86 mb_X10_refuse in_X10_refuse se_X10_refuse rfl (c_X10_refuse) rfl rfl rfl (Nat.le_of_ble_eq_true rfl) (rfl) ?_
    exact r_iret hG dX10_shown_14 (⟨rfl, shE_w (shE_rf hI), fun _ => ⟨rfl, u2_eq _ _ _ _⟩, fun q => absurd q h1⟩)
set_option maxRecDepth 100000 in
theorem c_X10_safe (hM : x_Lay MR) (hS2 : x_S2 X) {A : Nat} (hA : A ≤ 8) (hAr : MI 1 6 = nI A) (hI : shI MI ML A) {x y : Int32} : Ct X yX10_safe cX10_safe 4 (some .int) 12 0 0 [.ref 0, .int x, .int y] n SH MI ML MR n SH (fun r W B C => C = MR ∧ shE MI ML A W B ∧ r = some (.int (saAns MI ML A x y).1) ∧ W 0 8 = (saAns MI ML A x y).2) := by
  by_cases h1 : funTr MI x = 0
  · obtain ⟨⟨f, hf, rfl⟩, hmt⟩ := funTr_ex h1
    by_cases h2 : inR y 729 = true
    · have ha : saAns MI ML A (nI f) y = (b2 (safeV (ptsV ML y) (ML 49 f) (zR MI ML A f).2.1 (zR MI ML A f).2.2 (zR MI ML A f).1), 0) := by unfold saAns; rw [if_pos h1, if_pos h2, nI_clamp (by omega)]
      rw [ha]
      refine Ct_of (by decide) (Nat.le_of_ble_eq_true rfl) (fun G hG => ?_)
      refine r_aload_n 0 rfl dX10_safe_0 ?_
      refine r_iload_n 1 rfl dX10_safe_1 ?_
      refine r_Vf [.int _] dX10_safe_2 lk_X10_172 mb_X10_functionTrouble in_X10_functionTrouble se_X10_functionTrouble rfl (c_X10_functionTrouble hM) rfl rfl rfl (Nat.le_of_ble_eq_true rfl) (rfl) ?_
      refine r_istore_n (ls2 := [(3, .int (funTr MI (nI f))), (0, .ref 0), (1, .int (nI f)), (2, .int y)]) dX10_safe_5 (by decide) rfl ?_
      refine r_iload_n 0 rfl dX10_safe_6 ?_
      refine r_ifne (tgt := 19) dX10_safe_7 (by decide) (fun zh7 => ?_) (fun zh7 => ?_)
      · exact absurd zh7 (fun q => q h1)
      refine r_iload_n 3 rfl dX10_safe_10 ?_
      refine r_Sf [.int _] dX10_safe_11 lk_X10_207 mb_X10_isCube sc_X10_isCube rfl (c_X10_isCube) rfl (Nat.le_of_ble_eq_true rfl) (rfl) ?_
      refine r_ifne (tgt := 19) dX10_safe_14 (by decide) (fun zh14 => ?_) (fun zh14 => ?_)
      rotate_left
      · exact absurd zh14 (by rw [if_pos h2]; decide)
      refine r_iload_n 0 rfl dX10_safe_19 ?_
      refine r_ifeq (tgt := 29) dX10_safe_20 (by decide) (fun zh20 => ?_) (fun zh20 => ?_)
      rotate_left
      · exact absurd zh20 (fun q => q h1)
      refine r_aload_n 1 rfl dX10_safe_29 ?_
      refine r_aload_n 1 rfl dX10_safe_30 ?_
      refine r_iload_n 2 rfl dX10_safe_31 ?_
      refine r_Vg [.int _] dX10_safe_32 lk_X10_194 mb_X10_sheetOf in_X10_sheetOf se_X10_sheetOf rfl (c_X10_sheetOf hM hS2 hA hAr hI hf) rfl rfl rfl (Nat.le_of_ble_eq_true rfl) (rfl) (fun r zW zB zC hz => ?_)
      obtain ⟨rfl, rfl, zE, z0, z4, -⟩ := hz
      have zI := zE.2.2.2.2.2.1 f hf
      have zf0 := zI.1
      have zok : ShOK zW zB A f := zI.2.elim (fun z => absurd z4 (by rw [z]; decide)) (fun z => z.2)
      have zc9 := zok.2.2.1
      have zK8 : (zR zW zB A f).1 ≤ 8 := Nat.le_trans (fallR_le _ _ _ _ _ A) hA
      have zrr := zR_cg (shE_B zE) A f
      have zpt := ptsV_cg (shE_B zE) y
      have z49 : zB 49 = ML 49 := zE.2.2.2.1 49 (by decide)
      have zsf : safeV (ptsV zB y) (zB 49 f) (zB (89 + 7 * f + 2)) (zB (89 + 7 * f + 3)) (zR zW zB A f).1 = safeV (ptsV ML y) (ML 49 f) (zR MI ML A f).2.1 (zR MI ML A f).2.2 (zR MI ML A f).1 := by
        rw [safeV_congr (fun i hi => ⟨(zok.2.2.2.2.2.1 i hi).1, (zok.2.2.2.2.2.1 i hi).2⟩), zrr, zpt, z49]
      show RW X G _ _ _ _ _ _ _ _ _ _ _ _ _ [.ref (89 + 7 * f), .ref 0]
      refine r_aload_n 1 rfl dX10_safe_35 ?_
      refine r_getr dX10_safe_36 fl_X10_42 rfl (hM _ _ _ rfl) ?_
      refine r_iload_n 3 rfl dX10_safe_39 ?_
      refine r_Vf [.int _] dX10_safe_40 lk_X10_210 mb_X2_pointsOf in_X2_pointsOf se_X2_pointsOf rfl (c_X2_pointsOf hM) rfl rfl rfl (Nat.le_of_ble_eq_true rfl) (rfl) ?_
      refine r_Vf [.long _] dX10_safe_43 lk_X10_213 mb_X7_isSafe in_X7_isSafe se_X7_isSafe rfl (c_X7_isSafe hM (shOf hM hf) hf zf0 zK8 zc9) (shOf hM hf).1 rfl rfl (Nat.le_of_ble_eq_true rfl) (rfl) ?_
      refine r_ifeq (tgt := 53) dX10_safe_46 (by decide) (fun zh46 => ?_) (fun zh46 => ?_)
      · refine r_iconst (v := 0) rfl dX10_safe_53 ?_
        refine r_Vf [.int _] dX10_safe_54 lk_X10_115 mb_X10_told in_X10_told se_X10_told rfl (c_X10_told) rfl rfl rfl (Nat.le_of_ble_eq_true rfl) (rfl) ?_
        exact r_iret hG dX10_safe_57 (by
            rw [zsf] at zh46
            refine ⟨rfl, shE_w zE, ?_, u2_eq _ _ _ _⟩
            first
              | (rw [b2n.mp zh46]; rfl)
              | (rw [b2z.mp zh46]; rfl))
      · refine r_iconst (v := 1) rfl dX10_safe_49 ?_
        refine r_goto (tgt := 54) dX10_safe_50 (by decide) ?_
        refine r_Vf [.int _] dX10_safe_54 lk_X10_115 mb_X10_told in_X10_told se_X10_told rfl (c_X10_told) rfl rfl rfl (Nat.le_of_ble_eq_true rfl) (rfl) ?_
        exact r_iret hG dX10_safe_57 (by
            rw [zsf] at zh46
            refine ⟨rfl, shE_w zE, ?_, u2_eq _ _ _ _⟩
            first
              | (rw [b2n.mp zh46]; rfl)
              | (rw [b2z.mp zh46]; rfl))
    · have ha : saAns MI ML A (nI f) y = (-1, 2) := by unfold saAns; rw [if_pos h1, if_neg h2]
      rw [ha]
      refine Ct_of (by decide) (Nat.le_of_ble_eq_true rfl) (fun G hG => ?_)
      refine r_aload_n 0 rfl dX10_safe_0 ?_
      refine r_iload_n 1 rfl dX10_safe_1 ?_
      refine r_Vf [.int _] dX10_safe_2 lk_X10_172 mb_X10_functionTrouble in_X10_functionTrouble se_X10_functionTrouble rfl (c_X10_functionTrouble hM) rfl rfl rfl (Nat.le_of_ble_eq_true rfl) (rfl) ?_
      refine r_istore_n (ls2 := [(3, .int (funTr MI (nI f))), (0, .ref 0), (1, .int (nI f)), (2, .int y)]) dX10_safe_5 (by decide) rfl ?_
      refine r_iload_n 0 rfl dX10_safe_6 ?_
      refine r_ifne (tgt := 19) dX10_safe_7 (by decide) (fun zh7 => ?_) (fun zh7 => ?_)
      · exact absurd zh7 (fun q => q h1)
      refine r_iload_n 3 rfl dX10_safe_10 ?_
      refine r_Sf [.int _] dX10_safe_11 lk_X10_207 mb_X10_isCube sc_X10_isCube rfl (c_X10_isCube) rfl (Nat.le_of_ble_eq_true rfl) (rfl) ?_
      refine r_ifne (tgt := 19) dX10_safe_14 (by decide) (fun zh14 => ?_) (fun zh14 => ?_)
      · exact absurd zh14 (fun q => q (by rw [if_neg h2]))
      refine r_iconst (v := 2) rfl dX10_safe_17 ?_
      refine r_istore_n (ls2 := [(3, .int 2), (0, .ref 0), (1, .int (nI f)), (2, .int y)]) dX10_safe_18 (by decide) rfl ?_
      refine r_iload_n 0 rfl dX10_safe_19 ?_
      refine r_ifeq (tgt := 29) dX10_safe_20 (by decide) (fun zh20 => ?_) (fun zh20 => ?_)
      · exact absurd zh20 (by decide)
      refine r_aload_n 1 rfl dX10_safe_23 ?_
      refine r_iload_n 0 rfl dX10_safe_24 ?_
      refine r_Vf [.int _] dX10_safe_25 lk_X10_86 mb_X10_refuse in_X10_refuse se_X10_refuse rfl (c_X10_refuse) rfl rfl rfl (Nat.le_of_ble_eq_true rfl) (rfl) ?_
      exact r_iret hG dX10_safe_28 (⟨rfl, shE_w (shE_rf hI), rfl, u2_eq _ _ _ _⟩)
  · have ha : saAns MI ML A x y = (-1, funTr MI x) := by unfold saAns; rw [if_neg h1]
    rw [ha]
    refine Ct_of (by decide) (Nat.le_of_ble_eq_true rfl) (fun G hG => ?_)
    refine r_aload_n 0 rfl dX10_safe_0 ?_
    refine r_iload_n 1 rfl dX10_safe_1 ?_
    refine r_Vf [.int _] dX10_safe_2 lk_X10_172 mb_X10_functionTrouble in_X10_functionTrouble se_X10_functionTrouble rfl (c_X10_functionTrouble hM) rfl rfl rfl (Nat.le_of_ble_eq_true rfl) (rfl) ?_
    refine r_istore_n (ls2 := [(3, .int (funTr MI x)), (0, .ref 0), (1, .int x), (2, .int y)]) dX10_safe_5 (by decide) rfl ?_
    refine r_iload_n 0 rfl dX10_safe_6 ?_
    refine r_ifne (tgt := 19) dX10_safe_7 (by decide) (fun zh7 => ?_) (fun zh7 => ?_)
    rotate_left
    · exact absurd zh7 (h1)
    refine r_iload_n 0 rfl dX10_safe_19 ?_
    refine r_ifeq (tgt := 29) dX10_safe_20 (by decide) (fun zh20 => ?_) (fun zh20 => ?_)
    · exact absurd zh20 (h1)
    refine r_aload_n 1 rfl dX10_safe_23 ?_
    refine r_iload_n 0 rfl dX10_safe_24 ?_
    refine r_Vf [.int _] dX10_safe_25 lk_X10_86 mb_X10_refuse in_X10_refuse se_X10_refuse rfl (c_X10_refuse) rfl rfl rfl (Nat.le_of_ble_eq_true rfl) (rfl) ?_
    exact r_iret hG dX10_safe_28 (⟨rfl, shE_w (shE_rf hI), rfl, u2_eq _ _ _ _⟩)
end class5

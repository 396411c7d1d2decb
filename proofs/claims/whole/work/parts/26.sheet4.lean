/-! Sheet: gatherPrimes -/
def cubI (m : Nat) : Int32 := if m ≤ 728 then nI (728 - m) else -1
theorem cubI_dec {m : Nat} (h : m ≤ 728) : cubI m + Int32.ofInt (-1) = cubI (m + 1) := by
  unfold cubI
  rw [if_pos h]
  by_cases h2 : m + 1 ≤ 728
  · rw [if_pos h2]
    have := x_dec (728 - (m + 1))
    rw [show 728 - (m + 1) + 1 = 728 - m by omega] at this
    exact this
  · rw [if_neg h2, show 728 - m = 0 by omega]
    decide
theorem cubI_lt {m : Nat} (h : m ≤ 728) : cubI m = nI (728 - m) := if_pos h
theorem cubI_neg {m : Nat} (h : ¬ cubI m < 0) : m ≤ 728 := by
  by_cases h2 : m ≤ 728
  · exact h2
  · exact absurd (show cubI m < 0 by unfold cubI; rw [if_neg h2]; decide) h
theorem cubI_pos {m : Nat} (h : cubI m < 0) : ¬ m ≤ 728 := fun h2 => by
  rw [cubI_lt h2] at h
  exact absurd h (nI_pos (by omega))
theorem withinV_congr {p : Int64} {T T' : Nat → Int64} {K : Nat} (h : ∀ i, i < K → T i = T' i) : withinV p T K = withinV p T' K := by
  unfold withinV
  rw [Bool.eq_iff_iff, List.any_eq_true, List.any_eq_true]
  constructor
  · rintro ⟨i, h1, h2⟩; exact ⟨i, h1, by rw [← h i (List.mem_range.mp h1)]; exact h2⟩
  · rintro ⟨i, h1, h2⟩; exact ⟨i, h1, by rw [h i (List.mem_range.mp h1)]; exact h2⟩
/-- PRIMES found from the greatest CUBE on, m CUBES looked at -/
def gpS (ML : Nat → Nat → Int64) (z : Int64) (FB FP : Nat → Int64) (K : Nat) : Nat → List Int32
  | 0 => []
  | m + 1 => if safeV (ptsV ML (cubI m)) z FB FP K = true ∧ withinV (ptsV ML (cubI m)) (fun i => ptsV ML ((gpS ML z FB FP K m).getD i 0)) (gpS ML z FB FP K m).length = false ∧ (gpS ML z FB FP K m).length < 240 then gpS ML z FB FP K m ++ [cubI m] else gpS ML z FB FP K m
theorem gpS_len (ML : Nat → Nat → Int64) (z : Int64) (FB FP : Nat → Int64) (K : Nat) : ∀ m, (gpS ML z FB FP K m).length ≤ 240
  | 0 => Nat.zero_le _
  | m + 1 => by
    have := gpS_len ML z FB FP K m
    rw [gpS]
    split
    · rename_i h; rw [List.length_append]; simp; omega
    · exact this
def prM (MI : Nat → Nat → Int32) (a : Nat) (g : Nat → Int32) (c : Nat) : Nat → Nat → Int32 := u2 (sr MI (a + 4) g) a 11 (nI c)
theorem prM_r {MI : Nat → Nat → Int32} {a c : Nat} {g : Nat → Int32} : prM MI a g c (a + 4) = g := by
  unfold prM
  rw [u2_row _ _ (by omega), sr_eq]
theorem prM_c {MI : Nat → Nat → Int32} {a c : Nat} {g : Nat → Int32} : prM MI a g c a 11 = nI c := u2_eq _ _ _ _
theorem prM_f {MI : Nat → Nat → Int32} {a c j : Nat} {g : Nat → Int32} (h : j ≠ 11) : prM MI a g c a j = MI a j := by
  unfold prM
  rw [u2_ne _ _ (by omega), sr_ne _ _ (by omega)]
theorem prM_put {MI : Nat → Nat → Int32} {a c i : Nat} {g : Nat → Int32} {x : Int32} : u2 (prM MI a g c) (a + 4) i x = prM MI a (up g i x) c := by
  funext b j
  simp only [prM, u2, sr, up]
  grind
theorem prM_place {MI : Nat → Nat → Int32} {a c i : Nat} {g : Nat → Int32} {x : Int32} (hi : i < 240) : placeM (prM MI a g c) (a + 4) 240 (nI i) x = prM MI a (up g i x) c := by
  unfold placeM
  rw [if_pos (inR_t.mp (inR_nI hi (by decide))), nI_clamp (by omega), prM_put]
/-- a row's list half turned round, k pairs changed -/
def rvR (r : Nat → Int32) (L : List Int32) (k : Nat) : Nat → Int32 := fun j => if j < L.length then (if j < k ∨ L.length - 1 - j < k then L.getD (L.length - 1 - j) 0 else L.getD j 0) else r j
theorem rvR_0 (r : Nat → Int32) (L : List Int32) : rvR r L 0 = layL r L := by
  funext j
  unfold rvR layL
  simp
theorem rvR_end (r : Nat → Int32) (L : List Int32) : rvR r L (L.length / 2) = layL r L.reverse := by
  funext j
  unfold rvR layL
  rw [List.length_reverse]
  by_cases h : j < L.length
  · rw [if_pos h, if_pos h]
    have e : L.reverse.getD j 0 = L.getD (L.length - 1 - j) 0 := by
      simp only [List.getD]
      rw [List.getElem?_reverse h]
    rw [e]
    split
    · rfl
    · rename_i q
      have : L.length - 1 - j = j := by omega
      rw [this]
  · rw [if_neg h, if_neg h]
section sheet4
variable {X : xG} {n : Nat} {MI : Nat → Nat → Int32} {ML : Nat → Nat → Int64} {MR : Nat → Nat → Option Nat} {a : Nat}
set_option maxRecDepth 100000 in
theorem c_X7_gatherPrimes (hM : x_Lay MR) (hA0 : x_Sh MR a) {f K : Nat} (hf5 : f < 5) (hf : MI a 0 = nI f) (hK : K ≤ 8) (hc : MI a 9 = nI K) {PL : List Int32} (hPL : PL = gpS ML (ML 49 f) (ML (a + 2)) (ML (a + 3)) K 729) : Cf X yX7_gatherPrimes cX7_gatherPrimes 4 none 3 [.ref a] n SH MI ML MR none (prM MI a (layL (MI (a + 4)) PL.reverse) PL.length) ML MR := by
  have hA := hA0
  obtain ⟨s0, m1, m2, m3, m5, m7, m8, m10, m12, m17, s1, s2, s3, s4, s5, s6, hal⟩ := hA
  have hPl : PL.length ≤ 240 := by rw [hPL]; exact gpS_len _ _ _ _ _ _
  refine Ct_of (by decide) (Nat.le_of_ble_eq_true rfl) (fun G hG => ?_)
  have hhalf : nI PL.length / 2 = nI (PL.length / 2) := pk_div (a := PL.length) (d := 2) (by omega) (by decide) (by decide)
  have l2 : ∀ k, k ≤ PL.length / 2 → ∀ (ex : List (Nat × Value)), RW X G RX7 cX7_gatherPrimes 4 (x_rm 3 0 0) n SH (prM MI a (rvR (MI (a + 4)) PL k) PL.length) ML MR 0 0 76 [(1, .int (nI k)), (0, .ref a)] [] := by
    refine bwd (fun k hk ih ex => ?_)
    refine r_iload_n 0 rfl dX7_gatherPrimes_76 ?_
    refine r_aload_n 1 rfl dX7_gatherPrimes_77 ?_
    refine r_geti dX7_gatherPrimes_78 fl_X7_65 s0 ?_
    refine r_iconst (v := 2) rfl dX7_gatherPrimes_81 ?_
    refine r_idiv (by decide) dX7_gatherPrimes_82 ?_
    refine r_icmpge (tgt := 135) dX7_gatherPrimes_83 (by decide) (fun zh83 => ?_) (fun zh83 => ?_)
    · rw [prM_c, hhalf] at zh83
      obtain rfl : k = PL.length / 2 := by have := geL (k := PL.length / 2) (by omega) (by omega) zh83; omega
      exact r_vret hG dX7_gatherPrimes_135 (⟨rfl, by rw [rvR_end], rfl, rfl⟩)
    · rw [prM_c, hhalf] at zh83
      have hlt : k < PL.length / 2 := ltL (by omega) zh83
      refine r_aload_n 1 rfl dX7_gatherPrimes_86 ?_
      refine r_geti dX7_gatherPrimes_87 fl_X7_65 s0 ?_
      refine r_iconst (v := 1) rfl dX7_gatherPrimes_90 ?_
      refine r_isub dX7_gatherPrimes_91 ?_
      refine r_iload_n 0 rfl dX7_gatherPrimes_92 ?_
      refine r_isub dX7_gatherPrimes_93 ?_
      refine r_nmi (fun zv94 ze94 => ?_)
      refine r_istore_n (ls2 := [(2, .int zv94), (1, .int (nI k)), (0, .ref a)]) dX7_gatherPrimes_94 (by decide) rfl ?_
      have hh : zv94 = nI (PL.length - 1 - k) := by
        rw [ze94, prM_c, show nI PL.length - 1 = nI (PL.length - 1) from by have z := nI_pred (PL.length - 1); rw [show PL.length - 1 + 1 = PL.length by omega] at z; exact z, pk_sub (by omega)]
      refine r_aload_n 2 rfl dX7_gatherPrimes_95 ?_
      refine r_getr dX7_gatherPrimes_96 fl_X7_22 s0 m10 ?_
      refine r_iload_n 1 rfl dX7_gatherPrimes_99 ?_
      refine r_Sf [.ref _, .int _] dX7_gatherPrimes_100 lk_X7_68 mb_X10_pick sc_X10_pick rfl (c_X10_pick (N := 240) s4 (by decide)) rfl (Nat.le_of_ble_eq_true rfl) (rfl) ?_
      refine r_nmi (fun zv103 ze103 => ?_)
      refine r_istore_n (ls2 := [(3, .int zv103), (2, .int zv94), (1, .int (nI k)), (0, .ref a)]) dX7_gatherPrimes_103 (by decide) rfl ?_
      rw [prM_r, pickV_nI _ (show k < 240 by omega) (by decide)] at ze103
      refine r_aload_n 3 rfl dX7_gatherPrimes_104 ?_
      refine r_getr dX7_gatherPrimes_105 fl_X7_22 s0 m10 ?_
      refine r_iload_n 2 rfl dX7_gatherPrimes_108 ?_
      refine r_aload_n 3 rfl dX7_gatherPrimes_109 ?_
      refine r_getr dX7_gatherPrimes_110 fl_X7_22 s0 m10 ?_
      refine r_iload_n 1 rfl dX7_gatherPrimes_113 ?_
      refine r_Sf [.ref _, .int _] dX7_gatherPrimes_114 lk_X7_68 mb_X10_pick sc_X10_pick rfl (c_X10_pick (N := 240) s4 (by decide)) rfl (Nat.le_of_ble_eq_true rfl) (rfl) ?_
      refine r_Sn [.ref _, .int _, .int _] dX7_gatherPrimes_117 lk_X7_155 mb_X10_place sc_X10_place rfl (c_X10_place (N := 240) s4 (by decide)) rfl (Nat.le_of_ble_eq_true rfl) (rfl) ?_
      refine r_aload_n 3 rfl dX7_gatherPrimes_120 ?_
      refine r_getr dX7_gatherPrimes_121 fl_X7_22 s0 m10 ?_
      refine r_iload_n 1 rfl dX7_gatherPrimes_124 ?_
      refine r_iload_n 0 rfl dX7_gatherPrimes_125 ?_
      refine r_Sn [.ref _, .int _, .int _] dX7_gatherPrimes_126 lk_X7_155 mb_X10_place sc_X10_place rfl (c_X10_place (N := 240) s4 (by decide)) rfl (Nat.le_of_ble_eq_true rfl) (rfl) ?_
      refine r_iinc (v := (nI (k + 1))) (ls2 := [(1, .int (nI (k + 1))), (3, .int zv103), (2, .int zv94), (0, .ref a)]) 2 dX7_gatherPrimes_129 rfl (x_inc k) (by decide) rfl ?_
      refine r_goto (tgt := 76) dX7_gatherPrimes_132 (by decide) ?_
      refine r_mem ?_ rfl rfl (r_sub [0, 3] rfl (ih hlt ex))
      rw [hh, prM_r, pickV_nI _ (show PL.length - 1 - k < 240 by omega) (by decide), prM_place (by omega), prM_place (by omega), ze103]
      congr 1
      funext j
      simp only [up, rvR]
      grind
  have l1 : ∀ m, m ≤ 729 → RW X G RX7 cX7_gatherPrimes 4 (x_rm 3 0 0) n SH (prM MI a (layL (MI (a + 4)) (gpS ML (ML 49 f) (ML (a + 2)) (ML (a + 3)) K m)) (gpS ML (ML 49 f) (ML (a + 2)) (ML (a + 3)) K m).length) ML MR 0 0 9 [(1, .int (cubI m)), (0, .ref a)] [] := by
    refine bwd (fun m hm ih => ?_)
    obtain ⟨L, hL⟩ : ∃ L, L = gpS ML (ML 49 f) (ML (a + 2)) (ML (a + 3)) K m := ⟨_, rfl⟩
    have hl2 := gpS_len ML (ML 49 f) (ML (a + 2)) (ML (a + 3)) K m
    have hst : gpS ML (ML 49 f) (ML (a + 2)) (ML (a + 3)) K (m + 1) = if safeV (ptsV ML (cubI m)) (ML 49 f) (ML (a + 2)) (ML (a + 3)) K = true ∧ withinV (ptsV ML (cubI m)) (fun i => ptsV ML (L.getD i 0)) L.length = false ∧ L.length < 240 then L ++ [cubI m] else L := by rw [hL]; rfl
    rw [hst] at ih
    rw [← hL] at hl2 ⊢
    have hwi : withinV (ptsV ML (cubI m)) (fun i => ptsV ML (prM MI a (layL (MI (a + 4)) L) L.length (a + 4) i)) L.length = withinV (ptsV ML (cubI m)) (fun i => ptsV ML (L.getD i 0)) L.length := withinV_congr (fun i hi => by rw [prM_r, layL_lt hi])
    have hput : L.length < 240 → u2 (u2 (prM MI a (layL (MI (a + 4)) L) L.length) (a + 4) L.length (cubI m)) a 11 (nI (L.length + 1)) = prM MI a (layL (MI (a + 4)) (L ++ [cubI m])) (L ++ [cubI m]).length := fun h => by
      rw [← layL_app, List.length_append]
      funext b j
      simp only [prM, u2, sr, up, List.length_cons, List.length_nil]
      grind
    have sfe : Cf X yX7_isSafe cX7_isSafe 4 (some .boolean) 2 [.ref a, .long (ptsV ML (cubI m))] n SH (prM MI a (layL (MI (a + 4)) L) L.length) ML MR (some (.int (b2 (safeV (ptsV ML (cubI m)) (ML 49 f) (ML (a + 2)) (ML (a + 3)) K)))) (prM MI a (layL (MI (a + 4)) L) L.length) ML MR := c_X7_isSafe hM hA0 hf5 (by rw [prM_f (by decide)]; exact hf) hK (by rw [prM_f (by decide)]; exact hc)
    have wit := c_X7_liesWithinPrime (X := X) (n := n) (MI := prM MI a (layL (MI (a + 4)) L) L.length) (ML := ML) (MR := MR) (a := a) (p := ptsV ML (cubI m)) hM hA0 hl2 prM_c
    rw [hwi] at wit
    refine r_iload_n 0 rfl dX7_gatherPrimes_9 ?_
    refine r_iflt (tgt := 74) dX7_gatherPrimes_10 (by decide) (fun zh10 => ?_) (fun zh10 => ?_)
    · have h729 := cubI_pos zh10
      refine r_iconst (v := 0) rfl dX7_gatherPrimes_74 ?_
      refine r_istore_n (ls2 := [(1, .int 0), (0, .ref a)]) dX7_gatherPrimes_75 (by decide) rfl ?_
      have hm9 : m = 729 := by omega
      have q := l2 0 (by omega) []
      rw [rvR_0, show PL = L from by rw [hPL, hL, hm9]] at q
      exact r_sub [0, 1] rfl q
    · have h728 := cubI_neg zh10
      refine r_aload_n 1 rfl dX7_gatherPrimes_13 ?_
      refine r_getr dX7_gatherPrimes_14 fl_X7_41 s0 m2 ?_
      refine r_iload_n 0 rfl dX7_gatherPrimes_17 ?_
      refine r_Vf [.int _] dX7_gatherPrimes_18 lk_X7_72 mb_X2_pointsOf in_X2_pointsOf se_X2_pointsOf rfl (c_X2_pointsOf hM) rfl rfl rfl (Nat.le_of_ble_eq_true rfl) (rfl) ?_
      refine r_lstore_n (ls2 := [(2, .long (ptsV ML (cubI m))), (1, .int (cubI m)), (0, .ref a)]) dX7_gatherPrimes_21 (by decide) rfl ?_
      refine r_aload_n 2 rfl dX7_gatherPrimes_22 ?_
      refine r_lload_n 0 rfl dX7_gatherPrimes_23 ?_
      refine r_Vf [.long _] dX7_gatherPrimes_24 lk_X7_181 mb_X7_isSafe in_X7_isSafe se_X7_isSafe rfl (sfe) s0 rfl rfl (Nat.le_of_ble_eq_true rfl) (rfl) ?_
      refine r_ifeq (tgt := 68) dX7_gatherPrimes_27 (by decide) (fun zh27 => ?_) (fun zh27 => ?_)
      · try rw [prM_c] at zh45
        refine r_iinc (v := (cubI (m + 1))) (ls2 := [(1, .int (cubI (m + 1))), (2, .long (ptsV ML (cubI m))), (0, .ref a)]) 1 dX7_gatherPrimes_68 rfl (cubI_dec h728) (by decide) rfl ?_
        refine r_goto (tgt := 9) dX7_gatherPrimes_71 (by decide) ?_
        have q := ih (by omega)
        first
          | (rw [if_pos ⟨by cases z : safeV (ptsV ML (cubI m)) (ML 49 f) (ML (a + 2)) (ML (a + 3)) K with | true => rfl | false => exact absurd (b2z.mpr z) zh27, b2z.mp zh35, hl240⟩] at q
             refine r_mem ?_ rfl rfl (r_sub [0, 2] rfl q)
             rw [prM_c, nI_clamp (by omega), u2_ne _ _ (by omega), prM_c, nI_1]; exact hput hl240)
          | (rw [if_neg (fun z => absurd (b2z.mp zh27) (by rw [z.1]; decide))] at q; exact r_sub [0, 2] rfl q)
          | (rw [if_neg (fun z => zh35 (b2z.mpr z.2.1))] at q; exact r_sub [0, 2] rfl q)
          | (rw [if_neg (fun z => absurd (geL (k := 240) (by decide) (by omega) zh45) (by omega))] at q; exact r_sub [0, 2] rfl q)
      · refine r_aload_n 2 rfl dX7_gatherPrimes_30 ?_
        refine r_lload_n 0 rfl dX7_gatherPrimes_31 ?_
        refine r_Vf [.long _] dX7_gatherPrimes_32 lk_X7_185 mb_X7_liesWithinPrime in_X7_liesWithinPrime se_X7_liesWithinPrime rfl (wit) s0 rfl rfl (Nat.le_of_ble_eq_true rfl) (rfl) ?_
        refine r_ifne (tgt := 68) dX7_gatherPrimes_35 (by decide) (fun zh35 => ?_) (fun zh35 => ?_)
        · try rw [prM_c] at zh45
          refine r_iinc (v := (cubI (m + 1))) (ls2 := [(1, .int (cubI (m + 1))), (2, .long (ptsV ML (cubI m))), (0, .ref a)]) 1 dX7_gatherPrimes_68 rfl (cubI_dec h728) (by decide) rfl ?_
          refine r_goto (tgt := 9) dX7_gatherPrimes_71 (by decide) ?_
          have q := ih (by omega)
          first
            | (rw [if_pos ⟨by cases z : safeV (ptsV ML (cubI m)) (ML 49 f) (ML (a + 2)) (ML (a + 3)) K with | true => rfl | false => exact absurd (b2z.mpr z) zh27, b2z.mp zh35, hl240⟩] at q
               refine r_mem ?_ rfl rfl (r_sub [0, 2] rfl q)
               rw [prM_c, nI_clamp (by omega), u2_ne _ _ (by omega), prM_c, nI_1]; exact hput hl240)
            | (rw [if_neg (fun z => absurd (b2z.mp zh27) (by rw [z.1]; decide))] at q; exact r_sub [0, 2] rfl q)
            | (rw [if_neg (fun z => zh35 (b2z.mpr z.2.1))] at q; exact r_sub [0, 2] rfl q)
            | (rw [if_neg (fun z => absurd (geL (k := 240) (by decide) (by omega) zh45) (by omega))] at q; exact r_sub [0, 2] rfl q)
        · refine r_aload_n 2 rfl dX7_gatherPrimes_38 ?_
          refine r_geti dX7_gatherPrimes_39 fl_X7_65 s0 ?_
          refine r_sipush (v := 240) rfl dX7_gatherPrimes_42 ?_
          refine r_icmpge (tgt := 68) dX7_gatherPrimes_45 (by decide) (fun zh45 => ?_) (fun zh45 => ?_)
          · try rw [prM_c] at zh45
            refine r_iinc (v := (cubI (m + 1))) (ls2 := [(1, .int (cubI (m + 1))), (2, .long (ptsV ML (cubI m))), (0, .ref a)]) 1 dX7_gatherPrimes_68 rfl (cubI_dec h728) (by decide) rfl ?_
            refine r_goto (tgt := 9) dX7_gatherPrimes_71 (by decide) ?_
            have q := ih (by omega)
            first
              | (rw [if_pos ⟨by cases z : safeV (ptsV ML (cubI m)) (ML 49 f) (ML (a + 2)) (ML (a + 3)) K with | true => rfl | false => exact absurd (b2z.mpr z) zh27, b2z.mp zh35, hl240⟩] at q
                 refine r_mem ?_ rfl rfl (r_sub [0, 2] rfl q)
                 rw [prM_c, nI_clamp (by omega), u2_ne _ _ (by omega), prM_c, nI_1]; exact hput hl240)
              | (rw [if_neg (fun z => absurd (b2z.mp zh27) (by rw [z.1]; decide))] at q; exact r_sub [0, 2] rfl q)
              | (rw [if_neg (fun z => zh35 (b2z.mpr z.2.1))] at q; exact r_sub [0, 2] rfl q)
              | (rw [if_neg (fun z => absurd (geL (k := 240) (by decide) (by omega) zh45) (by omega))] at q; exact r_sub [0, 2] rfl q)
          · rw [prM_c] at zh45
            have hl240 : L.length < 240 := ltL (k := 240) (by omega) zh45
            refine r_aload_n 2 rfl dX7_gatherPrimes_48 ?_
            refine r_getr dX7_gatherPrimes_49 fl_X7_22 s0 m10 ?_
            refine r_aload_n 2 rfl dX7_gatherPrimes_52 ?_
            refine r_geti dX7_gatherPrimes_53 fl_X7_65 s0 ?_
            refine r_iload_n 1 rfl dX7_gatherPrimes_56 ?_
            refine r_iast dX7_gatherPrimes_57 s4 (by rw [prM_c]; exact vp_in_nI hl240 (by decide)) ?_
            refine r_aload_n 2 rfl dX7_gatherPrimes_58 ?_
            refine r_dup rfl dX7_gatherPrimes_59 ?_
            refine r_geti dX7_gatherPrimes_60 fl_X7_65 s0 ?_
            refine r_iconst (v := 1) rfl dX7_gatherPrimes_63 ?_
            refine r_iadd dX7_gatherPrimes_64 ?_
            refine r_puti dX7_gatherPrimes_65 fl_X7_65 s0 rfl rfl ?_
            try rw [prM_c] at zh45
            refine r_iinc (v := (cubI (m + 1))) (ls2 := [(1, .int (cubI (m + 1))), (2, .long (ptsV ML (cubI m))), (0, .ref a)]) 1 dX7_gatherPrimes_68 rfl (cubI_dec h728) (by decide) rfl ?_
            refine r_goto (tgt := 9) dX7_gatherPrimes_71 (by decide) ?_
            have q := ih (by omega)
            first
              | (rw [if_pos ⟨by cases z : safeV (ptsV ML (cubI m)) (ML 49 f) (ML (a + 2)) (ML (a + 3)) K with | true => rfl | false => exact absurd (b2z.mpr z) zh27, b2z.mp zh35, hl240⟩] at q
                 refine r_mem ?_ rfl rfl (r_sub [0, 2] rfl q)
                 rw [prM_c, nI_clamp (by omega), u2_ne _ _ (by omega), prM_c, nI_1]; exact hput hl240)
              | (rw [if_neg (fun z => absurd (b2z.mp zh27) (by rw [z.1]; decide))] at q; exact r_sub [0, 2] rfl q)
              | (rw [if_neg (fun z => zh35 (b2z.mpr z.2.1))] at q; exact r_sub [0, 2] rfl q)
              | (rw [if_neg (fun z => absurd (geL (k := 240) (by decide) (by omega) zh45) (by omega))] at q; exact r_sub [0, 2] rfl q)
  refine r_aload_n 0 rfl dX7_gatherPrimes_0 ?_
  refine r_iconst (v := 0) rfl dX7_gatherPrimes_1 ?_
  refine r_puti dX7_gatherPrimes_2 fl_X7_65 s0 rfl rfl ?_
  refine r_sipush (v := 728) rfl dX7_gatherPrimes_5 ?_
  refine r_istore_n (ls2 := [(1, .int 728), (0, .ref a)]) dX7_gatherPrimes_8 (by decide) rfl ?_
  have q := l1 0 (by omega)
  refine r_mem ?_ rfl rfl q
  rw [show gpS ML (ML 49 f) (ML (a + 2)) (ML (a + 3)) K 0 = [] from rfl, layL_nil]
  funext b j
  simp only [prM, u2, sr, List.length_nil, nI_0]
  grind
end sheet4

/-! String.length, charAt, indexOf on the constants -/
theorem x_sb_c : ∀ i, i < 9 → ∀ j, j < x_sl' i → ((x_sb i j &&& 255).toUInt32 % 65536).toInt32 = x_sb i j ∧ narrow .char (.int (x_sb i j)) = .int (x_sb i j) := by
  intro i hi j hj
  have hl := x_sl_le i hi
  rcases (show i = 0 ∨ i = 1 ∨ i = 2 ∨ i = 3 ∨ i = 4 ∨ i = 5 ∨ i = 6 ∨ i = 7 ∨ i = 8 by omega) with rfl | rfl | rfl | rfl | rfl | rfl | rfl | rfl | rfl <;> rcases (show j = 0 ∨ j = 1 ∨ j = 2 ∨ j = 3 ∨ j = 4 ∨ j = 5 by omega) with rfl | rfl | rfl | rfl | rfl | rfl <;> first | exact absurd hj (by decide) | exact ⟨by decide, rfl⟩
def ixV (i : Nat) (c : Int32) : Int32 := if ¬ c < 0 ∧ ¬ (255 : Int32) < c then optI ((List.range (x_sl' i)).find? (fun j => decide (x_sb i j = c.toInt8.toInt32))) else -1
section str
variable {X : xG} {n : Nat} {MI : Nat → Nat → Int32} {ML : Nat → Nat → Int64} {MR : Nat → Nat → Option Nat} {i : Nat}
set_option maxRecDepth 100000 in
theorem c_J0_isLatin1_aae02 (hS2 : x_S2 X) (hi : i < 9) : Cf X yJ0_isLatin1_aae02 cJ0_isLatin1_aae02 1 (some .boolean) 1 [.ref (1001 + i)] n SH MI ML MR (some (.int 1)) MI ML MR := by
  refine Ct_of (by decide) (Nat.le_of_ble_eq_true rfl) (fun G hG => ?_)
  refine r_strZ hS2 dJ0_isLatin1_aae02_0 fj_cmp ?_
  refine r_ifeq (tgt := 17) dJ0_isLatin1_aae02_3 (by decide) (fun zh3 => ?_) (fun zh3 => ?_)
  · exact absurd zh3 (by decide)
  refine r_aload_n 0 rfl dJ0_isLatin1_aae02_6 ?_
  refine r_strC hS2 hi dJ0_isLatin1_aae02_7 fj_cod ?_
  refine r_ifne (tgt := 17) dJ0_isLatin1_aae02_10 (by decide) (fun zh10 => ?_) (fun zh10 => ?_)
  · exact absurd zh10 (fun q => q rfl)
  refine r_iconst (v := 1) rfl dJ0_isLatin1_aae02_13 ?_
  refine r_goto (tgt := 18) dJ0_isLatin1_aae02_14 (by decide) ?_
  exact r_zret hG dJ0_isLatin1_aae02_18 (rfl) (⟨rfl, rfl, rfl, rfl⟩)
set_option maxRecDepth 100000 in
theorem c_J0_coder_7d493 (hS2 : x_S2 X) (hi : i < 9) : Cf X yJ0_coder_7d493 cJ0_coder_7d493 1 (some .byte) 1 [.ref (1001 + i)] n SH MI ML MR (some (.int 0)) MI ML MR := by
  refine Ct_of (by decide) (Nat.le_of_ble_eq_true rfl) (fun G hG => ?_)
  refine r_strZ hS2 dJ0_coder_7d493_0 fj_cmp ?_
  refine r_ifeq (tgt := 13) dJ0_coder_7d493_3 (by decide) (fun zh3 => ?_) (fun zh3 => ?_)
  · exact absurd zh3 (by decide)
  refine r_aload_n 0 rfl dJ0_coder_7d493_6 ?_
  refine r_strC hS2 hi dJ0_coder_7d493_7 fj_cod ?_
  refine r_goto (tgt := 14) dJ0_coder_7d493_10 (by decide) ?_
  exact r_zret hG dJ0_coder_7d493_14 (rfl) (⟨rfl, rfl, rfl, rfl⟩)
set_option maxRecDepth 100000 in
theorem c_J0_length_8abf5 (hS2 : x_S2 X) (hi : i < 9) : Cf X yJ0_length_8abf5 cJ0_length_8abf5 1 (some .int) 2 [.ref (1001 + i)] n SH MI ML MR (some (.int (nI (x_sl' i)))) MI ML MR := by
  have hl := x_sl_le i hi
  refine Ct_of (by decide) (Nat.le_of_ble_eq_true rfl) (fun G hG => ?_)
  refine r_aload_n 0 rfl dJ0_length_8abf5_0 ?_
  refine r_strV hS2 hi dJ0_length_8abf5_1 fj_val ?_
  refine r_strL (v := nI (x_sl' i)) hS2 hi rfl dJ0_length_8abf5_4 ?_
  refine r_aload_n 0 rfl dJ0_length_8abf5_5 ?_
  refine r_VRf [] dJ0_length_8abf5_6 lk_J0_335 mb_J0_coder_7d493 in_J0_coder_7d493 se_J0_coder_7d493 rfl (c_J0_coder_7d493 hS2 hi) hS2 (by omega) rfl rfl (Nat.le_of_ble_eq_true rfl) (rfl) ?_
  refine r_ishr dJ0_length_8abf5_9 ?_
  exact r_iret hG dJ0_length_8abf5_10 (⟨by rw [sc_shr0 (by omega)], rfl, rfl, rfl⟩)
set_option maxRecDepth 100000 in
theorem c_J3_checkIndex_8e157 {k N : Nat} (hk : k < N) (hN : N < 2 ^ 31) {v : Value} (hv : v = .null ∨ v = .ref 1200) : Cf X yJ3_checkIndex_8e157 cJ3_checkIndex_8e157 3 (some .int) 1 [.int (nI k), .int (nI N), v] n SH MI ML MR (some (.int (nI k))) MI ML MR := by
  refine Ct_of (by decide) (by rcases hv with rfl | rfl <;> exact Nat.le_of_ble_eq_true rfl) (fun G hG => ?_)
  refine r_iload_n 0 rfl dJ3_checkIndex_8e157_0 ?_
  refine r_iflt (tgt := 9) dJ3_checkIndex_8e157_1 (by decide) (fun zh1 => ?_) (fun zh1 => ?_)
  · exact absurd zh1 (nI_pos (by omega))
  refine r_iload_n 0 rfl dJ3_checkIndex_8e157_4 ?_
  refine r_iload_n 1 rfl dJ3_checkIndex_8e157_5 ?_
  refine r_icmplt (tgt := 16) dJ3_checkIndex_8e157_6 (by decide) (fun zh6 => ?_) (fun zh6 => ?_)
  rotate_left
  · exact absurd zh6 (fun q => q (nI_lt hk hN))
  refine r_iload_n 0 rfl dJ3_checkIndex_8e157_16 ?_
  exact r_iret hG dJ3_checkIndex_8e157_17 (⟨rfl, rfl, rfl, rfl⟩)
set_option maxRecDepth 100000 in
theorem c_J0_checkIndex_df160 (hS2 : x_S2 X) {k N : Nat} (hk : k < N) (hN : N < 2 ^ 31) : Cf X yJ0_checkIndex_df160 cJ0_checkIndex_df160 2 none 2 [.int (nI k), .int (nI N)] n SH MI ML MR none MI ML MR := by
  refine Ct_of (by decide) (Nat.le_of_ble_eq_true rfl) (fun G hG => ?_)
  refine r_iload_n 0 rfl dJ0_checkIndex_df160_0 ?_
  refine r_iload_n 1 rfl dJ0_checkIndex_df160_1 ?_
  refine r_strQ hS2 dJ0_checkIndex_df160_2 fj_sio (fun v hv => ?_)
  refine r_Sf [.int _, .int _, v] dJ0_checkIndex_df160_5 lk_J0_1059 mb_J3_checkIndex_8e157 sc_J3_checkIndex_8e157 rfl (c_J3_checkIndex_8e157 hk hN hv) rfl (Nat.le_of_ble_eq_true rfl) rfl ?_
  refine r_pop rfl dJ0_checkIndex_df160_8 ?_
  exact r_vret hG dJ0_checkIndex_df160_9 ⟨rfl, rfl, rfl, rfl⟩
set_option maxRecDepth 100000 in
theorem c_J1_charAt_3b067 (hS2 : x_S2 X) (hi : i < 9) {k : Nat} (hk : k < x_sl' i) : Cf X yJ1_charAt_3b067 cJ1_charAt_3b067 2 (some .char) 3 [.ref (1101 + i), .int (nI k)] n SH MI ML MR (some (.int (x_sb i k))) MI ML MR := by
  have hl := x_sl_le i hi
  have hc := x_sb_c i hi k hk
  refine Ct_of (by decide) (Nat.le_of_ble_eq_true rfl) (fun G hG => ?_)
  refine r_iload_n 1 rfl dJ1_charAt_3b067_0 ?_
  refine r_aload_n 0 rfl dJ1_charAt_3b067_1 ?_
  refine r_strL (v := nI (x_sl' i)) hS2 hi rfl dJ1_charAt_3b067_2 ?_
  refine r_Sn [.int _, .int _] dJ1_charAt_3b067_3 lk_J1_9 mb_J0_checkIndex_df160 sc_J0_checkIndex_df160 rfl (c_J0_checkIndex_df160 hS2 hk (by omega)) rfl (Nat.le_of_ble_eq_true rfl) (rfl) ?_
  refine r_aload_n 0 rfl dJ1_charAt_3b067_6 ?_
  refine r_iload_n 1 rfl dJ1_charAt_3b067_7 ?_
  refine r_strB hS2 hi (vp_in_nI hk (by omega)) dJ1_charAt_3b067_8 ?_
  refine r_sipush (v := 255) rfl dJ1_charAt_3b067_9 ?_
  refine r_iand dJ1_charAt_3b067_12 ?_
  refine r_i2c dJ1_charAt_3b067_13 ?_
  exact r_zret hG dJ1_charAt_3b067_14 (by rw [nI_clamp (by omega), hc.1]; exact hc.2) (⟨by rw [nI_clamp (by omega), hc.1], rfl, rfl, rfl⟩)
set_option maxRecDepth 100000 in
theorem c_J0_charAt_5068e (hS2 : x_S2 X) (hi : i < 9) {k : Nat} (hk : k < x_sl' i) : Cf X yJ0_charAt_5068e cJ0_charAt_5068e 2 (some .char) 4 [.ref (1001 + i), .int (nI k)] n SH MI ML MR (some (.int (x_sb i k))) MI ML MR := by
  have hc := x_sb_c i hi k hk
  refine Ct_of (by decide) (Nat.le_of_ble_eq_true rfl) (fun G hG => ?_)
  refine r_aload_n 0 rfl dJ0_charAt_5068e_0 ?_
  refine r_VRf [] dJ0_charAt_5068e_1 lk_J0_492 mb_J0_isLatin1_aae02 in_J0_isLatin1_aae02 se_J0_isLatin1_aae02 rfl (c_J0_isLatin1_aae02 hS2 hi) hS2 (by omega) rfl rfl (Nat.le_of_ble_eq_true rfl) (rfl) ?_
  refine r_ifeq (tgt := 16) dJ0_charAt_5068e_4 (by decide) (fun zh4 => ?_) (fun zh4 => ?_)
  · exact absurd zh4 (by decide)
  refine r_aload_n 0 rfl dJ0_charAt_5068e_7 ?_
  refine r_strV hS2 hi dJ0_charAt_5068e_8 fj_val ?_
  refine r_iload_n 1 rfl dJ0_charAt_5068e_11 ?_
  refine r_Sf [.ref _, .int _] dJ0_charAt_5068e_12 lk_J0_495 mb_J1_charAt_3b067 sc_J1_charAt_3b067 rfl (c_J1_charAt_3b067 hS2 hi hk) rfl (Nat.le_of_ble_eq_true rfl) (rfl) ?_
  exact r_zret hG dJ0_charAt_5068e_15 (hc.2) (⟨rfl, rfl, rfl, rfl⟩)
set_option maxRecDepth 100000 in
theorem c_J1_canEncode_9a6ad {c : Int32} : Cf X yJ1_canEncode_9a6ad cJ1_canEncode_9a6ad 1 (some .boolean) 1 [.int c] n SH MI ML MR (some (.int (if ¬ c < 0 ∧ ¬ (255 : Int32) < c then 1 else 0))) MI ML MR := by
  refine Ct_of (by decide) (Nat.le_of_ble_eq_true rfl) (fun G hG => ?_)
  refine r_iload_n 0 rfl dJ1_canEncode_9a6ad_0 ?_
  refine r_iflt (tgt := 15) dJ1_canEncode_9a6ad_1 (by decide) (fun zh1 => ?_) (fun zh1 => ?_)
  · refine r_iconst (v := 0) rfl dJ1_canEncode_9a6ad_15 ?_
    exact r_zret hG dJ1_canEncode_9a6ad_16 (rfl) (⟨by simp_all, rfl, rfl, rfl⟩)
  · refine r_iload_n 0 rfl dJ1_canEncode_9a6ad_4 ?_
    refine r_sipush (v := 255) rfl dJ1_canEncode_9a6ad_5 ?_
    refine r_icmpgt (tgt := 15) dJ1_canEncode_9a6ad_8 (by decide) (fun zh8 => ?_) (fun zh8 => ?_)
    · refine r_iconst (v := 0) rfl dJ1_canEncode_9a6ad_15 ?_
      exact r_zret hG dJ1_canEncode_9a6ad_16 (rfl) (⟨by simp_all, rfl, rfl, rfl⟩)
    · refine r_iconst (v := 1) rfl dJ1_canEncode_9a6ad_11 ?_
      refine r_goto (tgt := 16) dJ1_canEncode_9a6ad_12 (by decide) ?_
      exact r_zret hG dJ1_canEncode_9a6ad_16 (rfl) (⟨by simp_all, rfl, rfl, rfl⟩)
set_option maxRecDepth 100000 in
theorem c_J1_indexOfChar_4cfef (hS2 : x_S2 X) (hi : i < 9) {c : Int32} : Cf X yJ1_indexOfChar_4cfef cJ1_indexOfChar_4cfef 6 (some .int) 1 [.ref (1101 + i), .int c, .int 0, .int (nI (x_sl' i))] n SH MI ML MR (some (.int (optI ((List.range (x_sl' i)).find? (fun j => decide (x_sb i j = c.toInt8.toInt32)))))) MI ML MR := by
  have hl := x_sl_le i hi
  refine Ct_of (by decide) (Nat.le_of_ble_eq_true rfl) (fun G hG => ?_)
  have loop : ∀ j, j ≤ x_sl' i → (∀ k, k < j → decide (x_sb i k = c.toInt8.toInt32) = false) → RW X G RJ1 cJ1_indexOfChar_4cfef 6 (x_rm 1 0 0) n SH MI ML MR 0 0 7 [(5, .int (nI j)), (4, .int c.toInt8.toInt32), (0, .ref (1101 + i)), (1, .int c), (2, .int 0), (3, .int (nI (x_sl' i)))] [] := by
    refine bwd (fun j hj ih hk => ?_)
    have hnone : j = x_sl' i → (List.range (x_sl' i)).find? (fun j => decide (x_sb i j = c.toInt8.toInt32)) = none := fun e => by
      rw [List.find?_eq_none]
      intro k hk2
      rw [hk k (by rw [e]; exact List.mem_range.mp hk2)]
      decide
    have hsome : j < x_sl' i → decide (x_sb i j = c.toInt8.toInt32) = true → (List.range (x_sl' i)).find? (fun j => decide (x_sb i j = c.toInt8.toInt32)) = some j := fun hlt hb => by
      rw [List.find?_range_eq_some]
      exact ⟨hb, List.mem_range.mpr hlt, fun k hk2 => by rw [hk k hk2]; rfl⟩
    have hstep : decide (x_sb i j = c.toInt8.toInt32) = false → ∀ k, k < j + 1 → decide (x_sb i k = c.toInt8.toInt32) = false := fun hb k hk2 => by
      rcases Nat.lt_or_ge k j with q | q
      · exact hk k q
      · obtain rfl : k = j := by omega
        exact hb
    refine r_iload 0 rfl dJ1_indexOfChar_4cfef_7 ?_
    refine r_iload_n 5 rfl dJ1_indexOfChar_4cfef_9 ?_
    refine r_icmpge (tgt := 31) dJ1_indexOfChar_4cfef_10 (by decide) (fun zh10 => ?_) (fun zh10 => ?_)
    · have hje : j = x_sl' i := by have := geL (k := x_sl' i) (by omega) (by omega) zh10; omega
      refine r_iconst (v := (-1)) rfl dJ1_indexOfChar_4cfef_31 ?_
      exact r_iret hG dJ1_indexOfChar_4cfef_32 (⟨by rw [hnone hje]; rfl, rfl, rfl, rfl⟩)
    · have hlt : j < x_sl' i := ltL (by omega) zh10
      refine r_aload_n 2 rfl dJ1_indexOfChar_4cfef_13 ?_
      refine r_iload 0 rfl dJ1_indexOfChar_4cfef_14 ?_
      refine r_strB hS2 hi (vp_in_nI hlt (by omega)) dJ1_indexOfChar_4cfef_16 ?_
      refine r_iload 1 rfl dJ1_indexOfChar_4cfef_17 ?_
      refine r_icmpne (tgt := 25) dJ1_indexOfChar_4cfef_19 (by decide) (fun zh19 => ?_) (fun zh19 => ?_)
      · rw [nI_clamp (by omega)] at zh19
        refine r_iinc (v := (nI (j + 1))) (ls2 := [(5, .int (nI (j + 1))), (4, .int c.toInt8.toInt32), (0, .ref (1101 + i)), (1, .int c), (2, .int 0), (3, .int (nI (x_sl' i)))]) 0 dJ1_indexOfChar_4cfef_25 rfl (x_inc j) (by decide) rfl ?_
        refine r_goto (tgt := 7) dJ1_indexOfChar_4cfef_28 (by decide) ?_
        exact r_sub [0, 1, 2, 3, 4, 5] rfl (ih hlt (hstep (decide_eq_false zh19)))
      · rw [nI_clamp (by omega)] at zh19
        refine r_iload 0 rfl dJ1_indexOfChar_4cfef_22 ?_
        exact r_iret hG dJ1_indexOfChar_4cfef_24 (⟨by rw [hsome hlt (decide_eq_true zh19)]; rfl, rfl, rfl, rfl⟩)
  refine r_iload_n 1 rfl dJ1_indexOfChar_4cfef_0 ?_
  refine r_i2b dJ1_indexOfChar_4cfef_1 ?_
  refine r_istore (ls2 := [(4, .int c.toInt8.toInt32), (0, .ref (1101 + i)), (1, .int c), (2, .int 0), (3, .int (nI (x_sl' i)))]) dJ1_indexOfChar_4cfef_2 (by decide) rfl ?_
  refine r_iload_n 3 rfl dJ1_indexOfChar_4cfef_4 ?_
  refine r_istore (ls2 := [(5, .int 0), (4, .int c.toInt8.toInt32), (0, .ref (1101 + i)), (1, .int c), (2, .int 0), (3, .int (nI (x_sl' i)))]) dJ1_indexOfChar_4cfef_5 (by decide) rfl ?_
  exact r_sub [0, 1, 2, 3, 4, 5] rfl (loop 0 (by omega) (fun k hk => absurd hk (Nat.not_lt_zero k)))
theorem x_sl_pos : ∀ i, i < 9 → 0 < x_sl' i := by decide
set_option maxRecDepth 100000 in
theorem c_J1_indexOf_4cfef (hS2 : x_S2 X) (hi : i < 9) {c : Int32} : Cf X yJ1_indexOf_4cfef cJ1_indexOf_4cfef 4 (some .int) 2 [.ref (1101 + i), .int c, .int 0, .int (nI (x_sl' i))] n SH MI ML MR (some (.int (ixV i c))) MI ML MR := by
  have hl := x_sl_le i hi
  have hp := x_sl_pos i hi
  have hmin : (if nI (x_sl' i) < nI (x_sl' i) then nI (x_sl' i) else nI (x_sl' i)) = nI (x_sl' i) := by simp
  refine Ct_of (by decide) (Nat.le_of_ble_eq_true rfl) (fun G hG => ?_)
  refine r_iload_n 1 rfl dJ1_indexOf_4cfef_0 ?_
  refine r_Sf [.int _] dJ1_indexOf_4cfef_1 lk_J1_88 mb_J1_canEncode_9a6ad sc_J1_canEncode_9a6ad rfl (c_J1_canEncode_9a6ad) rfl (Nat.le_of_ble_eq_true rfl) (rfl) ?_
  refine r_ifne (tgt := 9) dJ1_indexOf_4cfef_4 (by decide) (fun zh4 => ?_) (fun zh4 => ?_)
  · have hc : ¬ c < 0 ∧ ¬ (255 : Int32) < c := by
      by_cases z : ¬ c < 0 ∧ ¬ (255 : Int32) < c
      · exact z
      · rw [if_neg z] at zh4; exact absurd rfl zh4
    refine r_iload_n 2 rfl dJ1_indexOf_4cfef_9 ?_
    refine r_iconst (v := 0) rfl dJ1_indexOf_4cfef_10 ?_
    refine r_mmax dJ1_indexOf_4cfef_11 lmx_J1_92 (Nat.le_of_ble_eq_true rfl) rfl ?_
    refine r_nmi (fun zv14 ze14 => ?_)
    refine r_istore_n (ls2 := [(2, .int zv14), (0, .ref (1101 + i)), (1, .int c), (3, .int (nI (x_sl' i)))]) dJ1_indexOf_4cfef_14 (by decide) rfl ?_
    obtain rfl : zv14 = 0 := by rw [ze14]; decide
    refine r_iload_n 3 rfl dJ1_indexOf_4cfef_15 ?_
    refine r_aload_n 1 rfl dJ1_indexOf_4cfef_16 ?_
    refine r_strL (v := nI (x_sl' i)) hS2 hi rfl dJ1_indexOf_4cfef_17 ?_
    refine r_mmin dJ1_indexOf_4cfef_18 lmn_J1_38 (Nat.le_of_ble_eq_true rfl) rfl ?_
    refine r_nmi (fun zv21 ze21 => ?_)
    refine r_istore_n (ls2 := [(3, .int zv21), (2, .int 0), (0, .ref (1101 + i)), (1, .int c)]) dJ1_indexOf_4cfef_21 (by decide) rfl ?_
    obtain rfl : zv21 = nI (x_sl' i) := by rw [ze21, hmin]
    refine r_iload_n 1 rfl dJ1_indexOf_4cfef_22 ?_
    refine r_iload_n 0 rfl dJ1_indexOf_4cfef_23 ?_
    refine r_icmplt (tgt := 29) dJ1_indexOf_4cfef_24 (by decide) (fun zh24 => ?_) (fun zh24 => ?_)
    rotate_left
    · exact absurd zh24 (fun q => q (nI_lt hp (by omega)))
    refine r_aload_n 2 rfl dJ1_indexOf_4cfef_29 ?_
    refine r_iload_n 3 rfl dJ1_indexOf_4cfef_30 ?_
    refine r_iload_n 1 rfl dJ1_indexOf_4cfef_31 ?_
    refine r_iload_n 0 rfl dJ1_indexOf_4cfef_32 ?_
    refine r_Sf [.ref _, .int _, .int _, .int _] dJ1_indexOf_4cfef_33 lk_J1_95 mb_J1_indexOfChar_4cfef sc_J1_indexOfChar_4cfef rfl (c_J1_indexOfChar_4cfef hS2 hi) rfl (Nat.le_of_ble_eq_true rfl) (rfl) ?_
    exact r_iret hG dJ1_indexOf_4cfef_36 (⟨by unfold ixV; rw [if_pos hc], rfl, rfl, rfl⟩)
  · refine r_iconst (v := (-1)) rfl dJ1_indexOf_4cfef_7 ?_
    exact r_iret hG dJ1_indexOf_4cfef_8 (⟨by unfold ixV; rw [if_neg (fun z => by rw [if_pos z] at zh4; exact absurd zh4 (by decide))], rfl, rfl, rfl⟩)
set_option maxRecDepth 100000 in
theorem c_J0_indexOf_7cf53 (hS2 : x_S2 X) (hi : i < 9) {c : Int32} : Cf X yJ0_indexOf_7cf53 cJ0_indexOf_7cf53 3 (some .int) 3 [.ref (1001 + i), .int c, .int 0] n SH MI ML MR (some (.int (ixV i c))) MI ML MR := by
  refine Ct_of (by decide) (Nat.le_of_ble_eq_true rfl) (fun G hG => ?_)
  refine r_aload_n 0 rfl dJ0_indexOf_7cf53_0 ?_
  refine r_VRf [] dJ0_indexOf_7cf53_1 lk_J0_492 mb_J0_isLatin1_aae02 in_J0_isLatin1_aae02 se_J0_isLatin1_aae02 rfl (c_J0_isLatin1_aae02 hS2 hi) hS2 (by omega) rfl rfl (Nat.le_of_ble_eq_true rfl) (rfl) ?_
  refine r_ifeq (tgt := 23) dJ0_indexOf_7cf53_4 (by decide) (fun zh4 => ?_) (fun zh4 => ?_)
  · exact absurd zh4 (by decide)
  refine r_aload_n 0 rfl dJ0_indexOf_7cf53_7 ?_
  refine r_strV hS2 hi dJ0_indexOf_7cf53_8 fj_val ?_
  refine r_iload_n 1 rfl dJ0_indexOf_7cf53_11 ?_
  refine r_iload_n 2 rfl dJ0_indexOf_7cf53_12 ?_
  refine r_aload_n 0 rfl dJ0_indexOf_7cf53_13 ?_
  refine r_VRf [] dJ0_indexOf_7cf53_14 lk_J0_505 mb_J0_length_8abf5 in_J0_length_8abf5 se_J0_length_8abf5 rfl (c_J0_length_8abf5 hS2 hi) hS2 (by omega) rfl rfl (Nat.le_of_ble_eq_true rfl) (rfl) ?_
  refine r_Sf [.ref _, .int _, .int _, .int _] dJ0_indexOf_7cf53_17 lk_J0_637 mb_J1_indexOf_4cfef sc_J1_indexOf_4cfef rfl (c_J1_indexOf_4cfef hS2 hi) rfl (Nat.le_of_ble_eq_true rfl) (rfl) ?_
  refine r_goto (tgt := 36) dJ0_indexOf_7cf53_20 (by decide) ?_
  exact r_iret hG dJ0_indexOf_7cf53_36 (⟨rfl, rfl, rfl, rfl⟩)
set_option maxRecDepth 100000 in
theorem c_J0_indexOf_0f7a4 (hS2 : x_S2 X) (hi : i < 9) {c : Int32} : Cf X yJ0_indexOf_0f7a4 cJ0_indexOf_0f7a4 2 (some .int) 4 [.ref (1001 + i), .int c] n SH MI ML MR (some (.int (ixV i c))) MI ML MR := by
  refine Ct_of (by decide) (Nat.le_of_ble_eq_true rfl) (fun G hG => ?_)
  refine r_aload_n 0 rfl dJ0_indexOf_0f7a4_0 ?_
  refine r_iload_n 1 rfl dJ0_indexOf_0f7a4_1 ?_
  refine r_iconst (v := 0) rfl dJ0_indexOf_0f7a4_2 ?_
  refine r_VRf [.int _, .int _] dJ0_indexOf_0f7a4_3 lk_J0_633 mb_J0_indexOf_7cf53 in_J0_indexOf_7cf53 se_J0_indexOf_7cf53 rfl (c_J0_indexOf_7cf53 hS2 hi) hS2 (by omega) rfl rfl (Nat.le_of_ble_eq_true rfl) (rfl) ?_
  exact r_iret hG dJ0_indexOf_0f7a4_6 (⟨rfl, rfl, rfl, rfl⟩)
end str

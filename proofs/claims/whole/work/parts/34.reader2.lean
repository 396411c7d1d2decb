/-! Reader: signs, words, letters, numbers -/
section reader2
variable {X : xG} {n : Nat} {MI D : Nat → Nat → Int32} {ML : Nat → Nat → Int64} {MR : Nat → Nat → Option Nat} {s : Ps} {L : Nat}
set_option maxRecDepth 100000 in
theorem c_X6_isSign (hM : x_Lay MR) (hL : L ≤ 600) (hl : D 14 5 = nI L) (ok : okP L s) {c : Int32} : Cf X yX6_isSign cX6_isSign 2 (some .boolean) 2 [.ref 14, .int c] n SH (laP D s) ML MR (some (.int (if sgnP (D 15) L s c then 1 else 0))) (laP D s) ML MR := by
  have h1 := ok.1
  have h2 := ok.2
  refine Ct_of (by decide) (Nat.le_of_ble_eq_true rfl) (fun G hG => ?_)
  refine r_aload_n 0 rfl dX6_isSign_0 ?_
  refine r_geti dX6_isSign_1 fl_X6_76 rfl ?_
  refine r_iconst (v := 3) rfl dX6_isSign_4 ?_
  refine r_icmpne (tgt := 24) dX6_isSign_5 (by decide) (fun zh5 => ?_) (fun zh5 => ?_)
  · refine r_iconst (v := 0) rfl dX6_isSign_24 ?_
    exact r_zret hG dX6_isSign_25 (rfl) (⟨by unfold sgnP; first | (rw [laP_k] at zh5; simp [zh5, zh17]; done) | (rw [laP_k] at zh5; simp [zh5]; done), rfl, rfl, rfl⟩)
  · refine r_aload_n 0 rfl dX6_isSign_8 ?_
    refine r_aload_n 0 rfl dX6_isSign_9 ?_
    refine r_geti dX6_isSign_10 fl_X6_83 rfl ?_
    refine r_Vf [.int _] dX6_isSign_13 lk_X6_90 mb_X6_byteAt in_X6_byteAt se_X6_byteAt rfl (t_byteAt hM hL hl (i := s.2.2.2.1) (by omega)) rfl rfl rfl (Nat.le_of_ble_eq_true rfl) (rfl) ?_
    refine r_iload_n 1 rfl dX6_isSign_16 ?_
    refine r_icmpne (tgt := 24) dX6_isSign_17 (by decide) (fun zh17 => ?_) (fun zh17 => ?_)
    · refine r_iconst (v := 0) rfl dX6_isSign_24 ?_
      exact r_zret hG dX6_isSign_25 (rfl) (⟨by unfold sgnP; first | (rw [laP_k] at zh5; simp [zh5, zh17]; done) | (rw [laP_k] at zh5; simp [zh5]; done), rfl, rfl, rfl⟩)
    · refine r_iconst (v := 1) rfl dX6_isSign_20 ?_
      refine r_goto (tgt := 25) dX6_isSign_21 (by decide) ?_
      exact r_zret hG dX6_isSign_25 (rfl) (⟨by unfold sgnP; first | (rw [laP_k] at zh5; simp [zh5, zh17]; done) | (rw [laP_k] at zh5; simp [zh5]; done), rfl, rfl, rfl⟩)
set_option maxRecDepth 100000 in
theorem c_X6_letterAmong (hM : x_Lay MR) (hS2 : x_S2 X) (hL : L ≤ 600) (hl : D 14 5 = nI L) (ok : okP L s) {i : Nat} (hi : i < 9) : Cf X yX6_letterAmong cX6_letterAmong 2 (some .int) 5 [.ref 14, .ref (1001 + i)] n SH (laP D s) ML MR (some (.int (letP (D 15) L s i))) (laP D s) ML MR := by
  have h1 := ok.1
  have h2 := ok.2
  have hsub : nI s.2.2.2.2.1 - nI s.2.2.2.1 = nI (s.2.2.2.2.1 - s.2.2.2.1) := nI_subI h1
  have h11 : nI (s.2.2.2.2.1 - s.2.2.2.1) = 1 ↔ s.2.2.2.2.1 - s.2.2.2.1 = 1 := nI_eq (b := 1) (by omega) (by decide)
  refine Ct_of (by decide) (Nat.le_of_ble_eq_true rfl) (fun G hG => ?_)
  refine r_aload_n 0 rfl dX6_letterAmong_0 ?_
  refine r_geti dX6_letterAmong_1 fl_X6_76 rfl ?_
  refine r_iconst (v := 1) rfl dX6_letterAmong_4 ?_
  refine r_icmpne (tgt := 21) dX6_letterAmong_5 (by decide) (fun zh5 => ?_) (fun zh5 => ?_)
  · refine r_iconst (v := (-1)) rfl dX6_letterAmong_21 ?_
    exact r_iret hG dX6_letterAmong_22 (by first
  | (refine ⟨?_, rfl, rfl, rfl⟩
     rw [laP_k] at zh5
     unfold letP
     rw [if_neg (fun q => zh5 q.1)])
  | (refine ⟨?_, rfl, rfl, rfl⟩
     rw [laP_n, laP_s, hsub, h11] at zh18
     unfold letP
     first
       | rw [if_neg (fun q => zh18 q.2)]
       | (rw [laP_k] at zh5
          rw [if_pos ⟨zh5, zh18⟩])))
  · refine r_aload_n 0 rfl dX6_letterAmong_8 ?_
    refine r_geti dX6_letterAmong_9 fl_X6_29 rfl ?_
    refine r_aload_n 0 rfl dX6_letterAmong_12 ?_
    refine r_geti dX6_letterAmong_13 fl_X6_83 rfl ?_
    refine r_isub dX6_letterAmong_16 ?_
    refine r_iconst (v := 1) rfl dX6_letterAmong_17 ?_
    refine r_icmpeq (tgt := 23) dX6_letterAmong_18 (by decide) (fun zh18 => ?_) (fun zh18 => ?_)
    · refine r_aload_n 1 rfl dX6_letterAmong_23 ?_
      refine r_aload_n 0 rfl dX6_letterAmong_24 ?_
      refine r_aload_n 0 rfl dX6_letterAmong_25 ?_
      refine r_geti dX6_letterAmong_26 fl_X6_83 rfl ?_
      refine r_Vf [.int _] dX6_letterAmong_29 lk_X6_90 mb_X6_byteAt in_X6_byteAt se_X6_byteAt rfl (t_byteAt hM hL hl (i := s.2.2.2.1) (by omega)) rfl rfl rfl (Nat.le_of_ble_eq_true rfl) (rfl) ?_
      refine r_i2c dX6_letterAmong_32 ?_
      rw [byV_c]
      refine r_VRf [.int _] dX6_letterAmong_33 lk_X6_96 mb_J0_indexOf_0f7a4 in_J0_indexOf_0f7a4 se_J0_indexOf_0f7a4 rfl (c_J0_indexOf_0f7a4 hS2 hi) hS2 (by omega) rfl rfl (Nat.le_of_ble_eq_true rfl) (rfl) ?_
      exact r_iret hG dX6_letterAmong_36 (by first
  | (refine ⟨?_, rfl, rfl, rfl⟩
     rw [laP_k] at zh5
     unfold letP
     rw [if_neg (fun q => zh5 q.1)])
  | (refine ⟨?_, rfl, rfl, rfl⟩
     rw [laP_n, laP_s, hsub, h11] at zh18
     unfold letP
     first
       | rw [if_neg (fun q => zh18 q.2)]
       | (rw [laP_k] at zh5
          rw [if_pos ⟨zh5, zh18⟩])))
    · refine r_iconst (v := (-1)) rfl dX6_letterAmong_21 ?_
      exact r_iret hG dX6_letterAmong_22 (by first
  | (refine ⟨?_, rfl, rfl, rfl⟩
     rw [laP_k] at zh5
     unfold letP
     rw [if_neg (fun q => zh5 q.1)])
  | (refine ⟨?_, rfl, rfl, rfl⟩
     rw [laP_n, laP_s, hsub, h11] at zh18
     unfold letP
     first
       | rw [if_neg (fun q => zh18 q.2)]
       | (rw [laP_k] at zh5
          rw [if_pos ⟨zh5, zh18⟩])))
set_option maxRecDepth 100000 in
theorem c_X6_wholeValue (hM : x_Lay MR) (hL : L ≤ 600) (hl : D 14 5 = nI L) (ok : okP L s) : Cf X yX6_wholeValue cX6_wholeValue 3 (some .int) 2 [.ref 14] n SH (laP D s) ML MR (some (.int (whlP (D 15) L s.2.2.2.1 (s.2.2.2.2.1 - s.2.2.2.1)))) (laP D s) ML MR := by
  have h1 := ok.1
  have h2 := ok.2
  obtain ⟨a, ha⟩ : ∃ a, a = s.2.2.2.1 := ⟨_, rfl⟩
  obtain ⟨e, he⟩ : ∃ e, e = s.2.2.2.2.1 := ⟨_, rfl⟩
  rw [← ha, ← he] at h1 ⊢
  rw [← he] at h2
  refine Ct_of (by decide) (Nat.le_of_ble_eq_true rfl) (fun G hG => ?_)
  have loop : ∀ k, k ≤ e - a → RW X G RX6 cX6_wholeValue 3 (x_rm 2 0 0) n SH (laP D s) ML MR 0 0 7 [(2, .int (nI (a + k))), (1, .int (whlP (D 15) L a k)), (0, .ref 14)] [] := by
    refine bwd (fun k hk ih => ?_)
    refine r_iload_n 0 rfl dX6_wholeValue_7 ?_
    refine r_aload_n 2 rfl dX6_wholeValue_8 ?_
    refine r_geti dX6_wholeValue_9 fl_X6_29 rfl ?_
    refine r_icmpge (tgt := 35) dX6_wholeValue_12 (by decide) (fun zh12 => ?_) (fun zh12 => ?_)
    · rw [laP_n, ← he] at zh12
      obtain rfl : k = e - a := by have := geL (k := e) (i := a + k) (by omega) (by omega) zh12; omega
      refine r_iload_n 1 rfl dX6_wholeValue_35 ?_
      exact r_iret hG dX6_wholeValue_36 (⟨rfl, rfl, rfl, rfl⟩)
    · rw [laP_n, ← he] at zh12
      have hlt : k < e - a := by have := ltL (k := e) (i := a + k) (by omega) zh12; omega
      refine r_iload_n 1 rfl dX6_wholeValue_15 ?_
      refine r_bipush (v := 10) rfl dX6_wholeValue_16 ?_
      refine r_imul dX6_wholeValue_18 ?_
      refine r_aload_n 2 rfl dX6_wholeValue_19 ?_
      refine r_iload_n 0 rfl dX6_wholeValue_20 ?_
      refine r_Vf [.int _] dX6_wholeValue_21 lk_X6_90 mb_X6_byteAt in_X6_byteAt se_X6_byteAt rfl (t_byteAt hM hL hl (i := a + k) (by omega)) rfl rfl rfl (Nat.le_of_ble_eq_true rfl) (rfl) ?_
      refine r_iadd dX6_wholeValue_24 ?_
      refine r_bipush (v := 48) rfl dX6_wholeValue_25 ?_
      refine r_isub dX6_wholeValue_27 ?_
      refine r_istore_n (ls2 := [(1, .int (whlP (D 15) L a (k + 1))), (2, .int (nI (a + k))), (0, .ref 14)]) dX6_wholeValue_28 (by decide) rfl ?_
      refine r_iinc (v := (nI (a + (k + 1)))) (ls2 := [(2, .int (nI (a + (k + 1)))), (1, .int (whlP (D 15) L a (k + 1))), (0, .ref 14)]) 1 dX6_wholeValue_29 rfl (x_inc _) (by decide) rfl ?_
      refine r_goto (tgt := 7) dX6_wholeValue_32 (by decide) ?_
      exact r_sub [0, 1, 2] rfl (ih hlt)
  refine r_iconst (v := 0) rfl dX6_wholeValue_0 ?_
  refine r_istore_n (ls2 := [(1, .int 0), (0, .ref 14)]) dX6_wholeValue_1 (by decide) rfl ?_
  refine r_aload_n 1 rfl dX6_wholeValue_2 ?_
  refine r_geti dX6_wholeValue_3 fl_X6_83 rfl ?_
  rw [laP_s, ← ha]
  refine r_istore_n (ls2 := [(2, .int (nI a)), (1, .int 0), (0, .ref 14)]) dX6_wholeValue_6 (by decide) rfl ?_
  exact loop 0 (by omega)
set_option maxRecDepth 100000 in
theorem c_X6_isWord (hM : x_Lay MR) (hS2 : x_S2 X) (hL : L ≤ 600) (hl : D 14 5 = nI L) (ok : okP L s) {i : Nat} (hi : i < 9) : Cf X yX6_isWord cX6_isWord 3 (some .boolean) 5 [.ref 14, .ref (1001 + i)] n SH (laP D s) ML MR (some (.int (if wrdP (D 15) L s i then 1 else 0))) (laP D s) ML MR := by
  have h1 := ok.1
  have h2 := ok.2
  have h6 := x_sl_le i hi
  have hsub : nI s.2.2.2.2.1 - nI s.2.2.2.1 = nI (s.2.2.2.2.1 - s.2.2.2.1) := nI_subI h1
  have h11 : nI (s.2.2.2.2.1 - s.2.2.2.1) = nI (x_sl' i) ↔ s.2.2.2.2.1 - s.2.2.2.1 = x_sl' i := nI_eq (by omega) (by omega)
  refine Ct_of (by decide) (Nat.le_of_ble_eq_true rfl) (fun G hG => ?_)
  have loop : s.2.2.1 = 1 → s.2.2.2.2.1 - s.2.2.2.1 = x_sl' i → ∀ k, k ≤ x_sl' i → (∀ j, j < k → x_sb i j = byV (D 15) L (s.2.2.2.1 + j)) → RW X G RX6 cX6_isWord 3 (x_rm 5 0 0) n SH (laP D s) ML MR 0 0 28 [(2, .int (nI k)), (0, .ref 14), (1, .ref (1001 + i))] [] := by
    intro hk1 hk2
    refine bwd (fun k hk ih hall => ?_)
    have hadd : nI s.2.2.2.1 + nI k = nI (s.2.2.2.1 + k) := nI_add _ _
    refine r_iload_n 0 rfl dX6_isWord_28 ?_
    refine r_aload_n 2 rfl dX6_isWord_29 ?_
    refine r_VRf [] dX6_isWord_30 lk_X6_101 mb_J0_length_8abf5 in_J0_length_8abf5 se_J0_length_8abf5 rfl (c_J0_length_8abf5 hS2 hi) hS2 (by omega) rfl rfl (Nat.le_of_ble_eq_true rfl) (rfl) ?_
    refine r_icmpge (tgt := 62) dX6_isWord_33 (by decide) (fun zh33 => ?_) (fun zh33 => ?_)
    · refine r_iconst (v := 1) rfl dX6_isWord_62 ?_
      exact r_zret hG dX6_isWord_63 (rfl) (⟨by unfold wrdP; rw [show ((List.range (x_sl' i)).all (fun j => decide (x_sb i j = byV (D 15) L (s.2.2.2.1 + j)))) = true from by rw [List.all_eq_true]; intro j hj; have h9 := geL (k := x_sl' i) (by omega) (by omega) zh33; have h10 := List.mem_range.mp hj; exact decide_eq_true (hall j (by omega))]; simp [hk1, hk2], rfl, rfl, rfl⟩)
    · have hlt : k < x_sl' i := ltL (by omega) zh33
      refine r_aload_n 2 rfl dX6_isWord_36 ?_
      refine r_iload_n 0 rfl dX6_isWord_37 ?_
      refine r_VRf [.int _] dX6_isWord_38 lk_X6_104 mb_J0_charAt_5068e in_J0_charAt_5068e se_J0_charAt_5068e rfl (c_J0_charAt_5068e hS2 hi hlt) hS2 (by omega) rfl rfl (Nat.le_of_ble_eq_true rfl) (rfl) ?_
      refine r_aload_n 1 rfl dX6_isWord_41 ?_
      refine r_aload_n 1 rfl dX6_isWord_42 ?_
      refine r_geti dX6_isWord_43 fl_X6_83 rfl ?_
      refine r_iload_n 0 rfl dX6_isWord_46 ?_
      refine r_iadd dX6_isWord_47 ?_
      refine r_Vf [.int _] dX6_isWord_48 lk_X6_90 mb_X6_byteAt in_X6_byteAt se_X6_byteAt rfl ((by rw [laP_s, hadd]; exact t_byteAt hM hL hl (i := s.2.2.2.1 + k) (by omega))) rfl rfl rfl (Nat.le_of_ble_eq_true rfl) (rfl) ?_
      refine r_icmpeq (tgt := 56) dX6_isWord_51 (by decide) (fun zh51 => ?_) (fun zh51 => ?_)
      · refine r_iinc (v := (nI (k + 1))) (ls2 := [(2, .int (nI (k + 1))), (0, .ref 14), (1, .ref (1001 + i))]) 0 dX6_isWord_56 rfl (x_inc k) (by decide) rfl ?_
        refine r_goto (tgt := 28) dX6_isWord_59 (by decide) ?_
        refine ih hlt (fun j hj => ?_)
        rcases Nat.lt_or_ge j k with q | q
        · exact hall j q
        · obtain rfl : j = k := by omega
          exact zh51
      · refine r_iconst (v := 0) rfl dX6_isWord_54 ?_
        exact r_zret hG dX6_isWord_55 (rfl) (⟨by unfold wrdP; rw [show ((List.range (x_sl' i)).all (fun j => decide (x_sb i j = byV (D 15) L (s.2.2.2.1 + j)))) = false from by rw [List.all_eq_false]; exact ⟨k, List.mem_range.mpr hlt, by simpa using zh51⟩]; simp, rfl, rfl, rfl⟩)
  refine r_aload_n 0 rfl dX6_isWord_0 ?_
  refine r_geti dX6_isWord_1 fl_X6_76 rfl ?_
  refine r_iconst (v := 1) rfl dX6_isWord_4 ?_
  refine r_icmpne (tgt := 24) dX6_isWord_5 (by decide) (fun zh5 => ?_) (fun zh5 => ?_)
  · refine r_iconst (v := 0) rfl dX6_isWord_24 ?_
    exact r_zret hG dX6_isWord_25 (rfl) (⟨by unfold wrdP; first | (rw [laP_k] at zh5; simp [zh5]; done) | (rw [laP_n, laP_s, hsub, h11] at zh21; simp [zh21]), rfl, rfl, rfl⟩)
  · refine r_aload_n 0 rfl dX6_isWord_8 ?_
    refine r_geti dX6_isWord_9 fl_X6_29 rfl ?_
    refine r_aload_n 0 rfl dX6_isWord_12 ?_
    refine r_geti dX6_isWord_13 fl_X6_83 rfl ?_
    refine r_isub dX6_isWord_16 ?_
    refine r_aload_n 1 rfl dX6_isWord_17 ?_
    refine r_VRf [] dX6_isWord_18 lk_X6_101 mb_J0_length_8abf5 in_J0_length_8abf5 se_J0_length_8abf5 rfl (c_J0_length_8abf5 hS2 hi) hS2 (by omega) rfl rfl (Nat.le_of_ble_eq_true rfl) (rfl) ?_
    refine r_icmpeq (tgt := 26) dX6_isWord_21 (by decide) (fun zh21 => ?_) (fun zh21 => ?_)
    · refine r_iconst (v := 0) rfl dX6_isWord_26 ?_
      refine r_istore_n (ls2 := [(2, .int 0), (0, .ref 14), (1, .ref (1001 + i))]) dX6_isWord_27 (by decide) rfl ?_
      rw [laP_n, laP_s, hsub, h11] at zh21
      rw [laP_k] at zh5
      exact loop zh5 zh21 0 (by omega) (fun j hj => absurd hj (Nat.not_lt_zero j))
    · refine r_iconst (v := 0) rfl dX6_isWord_24 ?_
      exact r_zret hG dX6_isWord_25 (rfl) (⟨by unfold wrdP; first | (rw [laP_k] at zh5; simp [zh5]; done) | (rw [laP_n, laP_s, hsub, h11] at zh21; simp [zh21]), rfl, rfl, rfl⟩)
/-- readFresh: the bit of a letter that is one of these and was not yet -/
def rdF (T : Nat → Int32) (L i : Nat) (bf : Int32) (s : Ps) : Int32 × Ps := if letP T L s i < 0 then (0, failP s 1) else if bf &&& ((1 : Int32) <<< (letP T L s i &&& 31)) = 0 then ((1 : Int32) <<< (letP T L s i &&& 31), stepP T L s) else (0, failP s 3)
def rdN (T : Nat → Int32) (L : Nat) (S : Int32) (s : Ps) : Int32 × Ps := if s.1 = 0 then (if s.2.2.1 = 2 then (if whlP T L s.2.2.2.1 (s.2.2.2.2.1 - s.2.2.2.1) < S then (whlP T L s.2.2.2.1 (s.2.2.2.2.1 - s.2.2.2.1), stepP T L s) else (0, failP s 2)) else (0, failP s 1)) else (0, s)
def rdS (T : Nat → Int32) (L : Nat) (s : Ps) : Ps := if s.1 = 0 then (if sgnP T L s 47 then stepP T L s else failP s 1) else s
theorem okP_F {T : Nat → Int32} {i : Nat} {bf : Int32} (h : okP L s) : okP L (rdF T L i bf s).2 := by
  unfold rdF
  split
  · exact okP_fail h
  · split
    · exact okP_step h
    · exact okP_fail h
theorem okP_N {T : Nat → Int32} {S : Int32} (h : okP L s) : okP L (rdN T L S s).2 := by
  unfold rdN
  split
  · split
    · split
      · exact okP_step h
      · exact okP_fail h
    · exact okP_fail h
  · exact h
theorem okP_S {T : Nat → Int32} (h : okP L s) : okP L (rdS T L s) := by
  unfold rdS
  split
  · split
    · exact okP_step h
    · exact okP_fail h
  · exact h
set_option maxRecDepth 100000 in
theorem c_X6_readFresh (hM : x_Lay MR) (hS2 : x_S2 X) (hL : L ≤ 600) (hl : D 14 5 = nI L) (ok : okP L s) {i : Nat} (hi : i < 9) {bf : Int32} : Cf X yX6_readFresh cX6_readFresh 5 (some .int) 6 [.ref 14, .ref (1001 + i), .int bf] n SH (laP D s) ML MR (some (.int (rdF (D 15) L i bf s).1)) (laP D (rdF (D 15) L i bf s).2) ML MR := by
  refine Ct_of (by decide) (Nat.le_of_ble_eq_true rfl) (fun G hG => ?_)
  refine r_aload_n 0 rfl dX6_readFresh_0 ?_
  refine r_aload_n 1 rfl dX6_readFresh_1 ?_
  refine r_Vf [.ref _] dX6_readFresh_2 lk_X6_164 mb_X6_letterAmong in_X6_letterAmong se_X6_letterAmong rfl (c_X6_letterAmong hM hS2 hL hl ok hi) rfl rfl rfl (Nat.le_of_ble_eq_true rfl) (rfl) ?_
  refine r_istore_n (ls2 := [(3, .int (letP (D 15) L s i)), (0, .ref 14), (1, .ref (1001 + i)), (2, .int bf)]) dX6_readFresh_5 (by decide) rfl ?_
  refine r_iload_n 0 rfl dX6_readFresh_6 ?_
  refine r_ifge (tgt := 17) dX6_readFresh_7 (by decide) (fun zh7 => ?_) (fun zh7 => ?_)
  · refine r_iconst (v := 1) rfl dX6_readFresh_17 ?_
    refine r_iload_n 0 rfl dX6_readFresh_18 ?_
    refine r_ishl dX6_readFresh_19 ?_
    refine r_istore (ls2 := [(4, .int ((1 : Int32) <<< (letP (D 15) L s i &&& 31))), (3, .int (letP (D 15) L s i)), (0, .ref 14), (1, .ref (1001 + i)), (2, .int bf)]) dX6_readFresh_20 (by decide) rfl ?_
    refine r_iload_n 4 rfl dX6_readFresh_22 ?_
    refine r_iload 0 rfl dX6_readFresh_23 ?_
    refine r_iand dX6_readFresh_25 ?_
    refine r_ifeq (tgt := 36) dX6_readFresh_26 (by decide) (fun zh26 => ?_) (fun zh26 => ?_)
    · refine r_aload_n 2 rfl dX6_readFresh_36 ?_
      refine r_Vn [] dX6_readFresh_37 lk_X6_41 mb_X6_step in_X6_step se_X6_step rfl (c_X6_step hM hS2 hL hl ok) rfl rfl rfl (Nat.le_of_ble_eq_true rfl) (rfl) ?_
      refine r_iload 0 rfl dX6_readFresh_40 ?_
      exact r_iret hG dX6_readFresh_42 (⟨by unfold rdF; rw [if_neg (Int32.not_lt.mpr zh7), if_pos zh26], by unfold rdF; rw [if_neg (Int32.not_lt.mpr zh7), if_pos zh26], rfl, rfl⟩)
    · refine r_aload_n 2 rfl dX6_readFresh_29 ?_
      refine r_iconst (v := 3) rfl dX6_readFresh_30 ?_
      refine r_Vn [.int _] dX6_readFresh_31 lk_X6_68 mb_X6_fail in_X6_fail se_X6_fail rfl (c_X6_fail) rfl rfl rfl (Nat.le_of_ble_eq_true rfl) (rfl) ?_
      refine r_iconst (v := 0) rfl dX6_readFresh_34 ?_
      exact r_iret hG dX6_readFresh_35 (⟨by unfold rdF; rw [if_neg (Int32.not_lt.mpr zh7), if_neg zh26], by unfold rdF; rw [if_neg (Int32.not_lt.mpr zh7), if_neg zh26], rfl, rfl⟩)
  · refine r_aload_n 1 rfl dX6_readFresh_10 ?_
    refine r_iconst (v := 1) rfl dX6_readFresh_11 ?_
    refine r_Vn [.int _] dX6_readFresh_12 lk_X6_68 mb_X6_fail in_X6_fail se_X6_fail rfl (c_X6_fail) rfl rfl rfl (Nat.le_of_ble_eq_true rfl) (rfl) ?_
    refine r_iconst (v := 0) rfl dX6_readFresh_15 ?_
    exact r_iret hG dX6_readFresh_16 (⟨by unfold rdF; rw [if_pos (Int32.not_le.mp zh7)], by unfold rdF; rw [if_pos (Int32.not_le.mp zh7)], rfl, rfl⟩)
set_option maxRecDepth 100000 in
theorem c_X6_readStateNumber (hM : x_Lay MR) (hS2 : x_S2 X) (hL : L ≤ 600) (hl : D 14 5 = nI L) (ok : okP L s) : Cf X yX6_readStateNumber cX6_readStateNumber 2 (some .int) 6 [.ref 14] n SH (laP D s) ML MR (some (.int (rdN (D 15) L (D 16 1) s).1)) (laP D (rdN (D 15) L (D 16 1) s).2) ML MR := by
  refine Ct_of (by decide) (Nat.le_of_ble_eq_true rfl) (fun G hG => ?_)
  refine r_aload_n 0 rfl dX6_readStateNumber_0 ?_
  refine r_geti dX6_readStateNumber_1 fl_X6_32 rfl ?_
  refine r_ifeq (tgt := 9) dX6_readStateNumber_4 (by decide) (fun zh4 => ?_) (fun zh4 => ?_)
  · rw [laP_f] at zh4
    refine r_aload_n 0 rfl dX6_readStateNumber_9 ?_
    refine r_geti dX6_readStateNumber_10 fl_X6_76 rfl ?_
    refine r_iconst (v := 2) rfl dX6_readStateNumber_13 ?_
    refine r_icmpeq (tgt := 24) dX6_readStateNumber_14 (by decide) (fun zh14 => ?_) (fun zh14 => ?_)
    · rw [laP_k] at zh14
      refine r_aload_n 0 rfl dX6_readStateNumber_24 ?_
      refine r_Vf [] dX6_readStateNumber_25 lk_X6_111 mb_X6_wholeValue in_X6_wholeValue se_X6_wholeValue rfl (c_X6_wholeValue hM hL hl ok) rfl rfl rfl (Nat.le_of_ble_eq_true rfl) (rfl) ?_
      refine r_istore_n (ls2 := [(1, .int (whlP (D 15) L s.2.2.2.1 (s.2.2.2.2.1 - s.2.2.2.1))), (0, .ref 14)]) dX6_readStateNumber_28 (by decide) rfl ?_
      refine r_iload_n 0 rfl dX6_readStateNumber_29 ?_
      refine r_aload_n 1 rfl dX6_readStateNumber_30 ?_
      refine r_getr dX6_readStateNumber_31 fl_X6_18 rfl (hM _ _ _ rfl) ?_
      refine r_geti dX6_readStateNumber_34 fl_X6_108 rfl ?_
      refine r_icmplt (tgt := 47) dX6_readStateNumber_37 (by decide) (fun zh37 => ?_) (fun zh37 => ?_)
      · rw [laP_b s (show (16 : Nat) ≠ 14 by decide)] at zh37
        refine r_aload_n 1 rfl dX6_readStateNumber_47 ?_
        refine r_Vn [] dX6_readStateNumber_48 lk_X6_41 mb_X6_step in_X6_step se_X6_step rfl (c_X6_step hM hS2 hL hl ok) rfl rfl rfl (Nat.le_of_ble_eq_true rfl) (rfl) ?_
        refine r_iload_n 0 rfl dX6_readStateNumber_51 ?_
        exact r_iret hG dX6_readStateNumber_52 (⟨by unfold rdN; rw [if_pos zh4, if_pos zh14, if_pos zh37], by unfold rdN; rw [if_pos zh4, if_pos zh14, if_pos zh37], rfl, rfl⟩)
      · rw [laP_b s (show (16 : Nat) ≠ 14 by decide)] at zh37
        refine r_aload_n 1 rfl dX6_readStateNumber_40 ?_
        refine r_iconst (v := 2) rfl dX6_readStateNumber_41 ?_
        refine r_Vn [.int _] dX6_readStateNumber_42 lk_X6_68 mb_X6_fail in_X6_fail se_X6_fail rfl (c_X6_fail) rfl rfl rfl (Nat.le_of_ble_eq_true rfl) (rfl) ?_
        refine r_iconst (v := 0) rfl dX6_readStateNumber_45 ?_
        exact r_iret hG dX6_readStateNumber_46 (⟨by unfold rdN; rw [if_pos zh4, if_pos zh14, if_neg zh37], by unfold rdN; rw [if_pos zh4, if_pos zh14, if_neg zh37], rfl, rfl⟩)
    · rw [laP_k] at zh14
      refine r_aload_n 0 rfl dX6_readStateNumber_17 ?_
      refine r_iconst (v := 1) rfl dX6_readStateNumber_18 ?_
      refine r_Vn [.int _] dX6_readStateNumber_19 lk_X6_68 mb_X6_fail in_X6_fail se_X6_fail rfl (c_X6_fail) rfl rfl rfl (Nat.le_of_ble_eq_true rfl) (rfl) ?_
      refine r_iconst (v := 0) rfl dX6_readStateNumber_22 ?_
      exact r_iret hG dX6_readStateNumber_23 (⟨by unfold rdN; rw [if_pos zh4, if_neg zh14], by unfold rdN; rw [if_pos zh4, if_neg zh14], rfl, rfl⟩)
  · refine r_iconst (v := 0) rfl dX6_readStateNumber_7 ?_
    exact r_iret hG dX6_readStateNumber_8 (⟨by unfold rdN; rw [if_neg (show ¬ s.1 = 0 from zh4)], by unfold rdN; rw [if_neg (show ¬ s.1 = 0 from zh4)], rfl, rfl⟩)
set_option maxRecDepth 100000 in
theorem c_X6_readSlash (hM : x_Lay MR) (hS2 : x_S2 X) (hL : L ≤ 600) (hl : D 14 5 = nI L) (ok : okP L s) : Cf X yX6_readSlash cX6_readSlash 1 none 6 [.ref 14] n SH (laP D s) ML MR none (laP D (rdS (D 15) L s)) ML MR := by
  refine Ct_of (by decide) (Nat.le_of_ble_eq_true rfl) (fun G hG => ?_)
  refine r_aload_n 0 rfl dX6_readSlash_0 ?_
  refine r_geti dX6_readSlash_1 fl_X6_32 rfl ?_
  refine r_ifeq (tgt := 8) dX6_readSlash_4 (by decide) (fun zh4 => ?_) (fun zh4 => ?_)
  · rw [laP_f] at zh4
    refine r_aload_n 0 rfl dX6_readSlash_8 ?_
    refine r_bipush (v := 47) rfl dX6_readSlash_9 ?_
    refine r_Vf [.int _] dX6_readSlash_11 lk_X6_72 mb_X6_isSign in_X6_isSign se_X6_isSign rfl (c_X6_isSign hM hL hl ok) rfl rfl rfl (Nat.le_of_ble_eq_true rfl) (rfl) ?_
    refine r_ifeq (tgt := 24) dX6_readSlash_14 (by decide) (fun zh14 => ?_) (fun zh14 => ?_)
    · refine r_aload_n 0 rfl dX6_readSlash_24 ?_
      refine r_iconst (v := 1) rfl dX6_readSlash_25 ?_
      refine r_Vn [.int _] dX6_readSlash_26 lk_X6_68 mb_X6_fail in_X6_fail se_X6_fail rfl (c_X6_fail) rfl rfl rfl (Nat.le_of_ble_eq_true rfl) (rfl) ?_
      exact r_vret hG dX6_readSlash_29 (⟨rfl, by unfold rdS; rw [if_pos zh4]; simp_all, rfl, rfl⟩)
    · refine r_aload_n 0 rfl dX6_readSlash_17 ?_
      refine r_Vn [] dX6_readSlash_18 lk_X6_41 mb_X6_step in_X6_step se_X6_step rfl (c_X6_step hM hS2 hL hl ok) rfl rfl rfl (Nat.le_of_ble_eq_true rfl) (rfl) ?_
      refine r_goto (tgt := 29) dX6_readSlash_21 (by decide) ?_
      exact r_vret hG dX6_readSlash_29 (⟨rfl, by unfold rdS; rw [if_pos zh4]; simp_all, rfl, rfl⟩)
  · exact r_vret hG dX6_readSlash_7 (⟨rfl, by unfold rdS; rw [if_neg (show ¬ s.1 = 0 from zh4)], rfl, rfl⟩)
end reader2

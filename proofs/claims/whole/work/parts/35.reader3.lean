/-! Reader: rows of letters -/
section reader3
variable {X : xG} {n : Nat} {MI D : Nat → Nat → Int32} {ML : Nat → Nat → Int64} {MR : Nat → Nat → Option Nat} {s : Ps} {L : Nat}
def rdL1 (T : Nat → Int32) (L i : Nat) (q : Int32 × Ps) : Int32 × Ps := (q.1 ||| (rdF T L i q.1 q.2).1, (rdF T L i q.1 q.2).2)
def rdLs (T : Nat → Int32) (L i : Nat) : Nat → Int32 × Ps → Int32 × Ps
  | 0, q => q
  | k + 1, q => if q.2.1 = 0 ∧ q.2.2.2.1 = 1 then rdLs T L i k (rdL1 T L i q) else q
def rdL (T : Nat → Int32) (L i : Nat) (s : Ps) : Int32 × Ps := rdLs T L i (x_sl' i + 1) (0, s)
theorem okP_L1 {T : Nat → Int32} {i : Nat} {q : Int32 × Ps} (h : okP L q.2) : okP L (rdL1 T L i q).2 := okP_F h
theorem okP_Ls {T : Nat → Int32} {i : Nat} : ∀ (k : Nat) (q : Int32 × Ps), okP L q.2 → okP L (rdLs T L i k q).2
  | 0, _, h => h
  | k + 1, q, h => by
    rw [rdLs]
    split
    · exact okP_Ls k _ (okP_L1 h)
    · exact h
theorem okP_L {T : Nat → Int32} {i : Nat} (h : okP L s) : okP L (rdL T L i s).2 := okP_Ls _ _ h
def orU (s : Ps) (x : Int32) : Ps := (s.1, s.2.1, s.2.2.1, s.2.2.2.1, s.2.2.2.2.1, s.2.2.2.2.2.1 ||| x, s.2.2.2.2.2.2)
def orD (s : Ps) (x : Int32) : Ps := (s.1, s.2.1, s.2.2.1, s.2.2.2.1, s.2.2.2.2.1, s.2.2.2.2.2.1, s.2.2.2.2.2.2 ||| x)
def zUD (s : Ps) : Ps := (s.1, s.2.1, s.2.2.1, s.2.2.2.1, s.2.2.2.2.1, 0, 0)
theorem okP_oU {x : Int32} (h : okP L s) : okP L (orU s x) := h
theorem okP_oD {x : Int32} (h : okP L s) : okP L (orD s x) := h
theorem okP_zUD (h : okP L s) : okP L (zUD s) := h
theorem laP_oU (s : Ps) (x : Int32) : u2 (laP D s) 14 9 (laP D s 14 9 ||| x) = laP D (orU s x) := laP_su s _
theorem laP_oD (s : Ps) (x : Int32) : u2 (laP D s) 14 10 (laP D s 14 10 ||| x) = laP D (orD s x) := laP_sd s _
theorem laP_z (s : Ps) : u2 (u2 (laP D s) 14 9 0) 14 10 0 = laP D (zUD s) := by rw [laP_su, laP_sd]; rfl
/-- the change of one letter: its sign, and the TOKEN behind it -/
def chg2 (T : Nat → Int32) (L : Nat) (r : Int32 × Ps) : Ps := if sgnP T L r.2 43 then orU r.2 r.1 else if sgnP T L r.2 45 then orD r.2 r.1 else failP r.2 1
def chg1 (T : Nat → Int32) (L i : Nat) (s : Ps) : Ps := if (chg2 T L (rdF T L i (s.2.2.2.2.2.1 ||| s.2.2.2.2.2.2) s)).1 = 0 then stepP T L (chg2 T L (rdF T L i (s.2.2.2.2.2.1 ||| s.2.2.2.2.2.2) s)) else chg2 T L (rdF T L i (s.2.2.2.2.2.1 ||| s.2.2.2.2.2.2) s)
def rdCs (T : Nat → Int32) (L i : Nat) : Nat → Ps → Ps
  | 0, s => s
  | k + 1, s => if s.1 = 0 ∧ s.2.2.1 = 1 then rdCs T L i k (chg1 T L i s) else s
def rdC (T : Nat → Int32) (L i : Nat) (s : Ps) : Ps := rdCs T L i (x_sl' i + 1) (zUD s)
theorem okP_2 {T : Nat → Int32} {r : Int32 × Ps} (h : okP L r.2) : okP L (chg2 T L r) := by
  unfold chg2
  split
  · exact h
  · split
    · exact h
    · exact okP_fail h
theorem okP_1 {T : Nat → Int32} {i : Nat} (h : okP L s) : okP L (chg1 T L i s) := by
  unfold chg1
  split
  · exact okP_step (okP_2 (okP_F h))
  · exact okP_2 (okP_F h)
theorem okP_Cs {T : Nat → Int32} {i : Nat} : ∀ (k : Nat) (s : Ps), okP L s → okP L (rdCs T L i k s)
  | 0, _, h => h
  | k + 1, s, h => by
    rw [rdCs]
    split
    · exact okP_Cs k _ (okP_1 h)
    · exact h
theorem okP_C {T : Nat → Int32} {i : Nat} (h : okP L s) : okP L (rdC T L i s) := okP_Cs _ _ h
def ltr1 (T : Nat → Int32) (L : Nat) (r : Int32 × Ps) : Ps := if sgnP T L r.2 39 then stepP T L (orD r.2 r.1) else orU r.2 r.1
def rdTs (T : Nat → Int32) (L : Nat) : Nat → Ps → Ps
  | 0, s => s
  | k + 1, s => if s.2.2.1 = 1 then (if (rdF T L 7 (s.2.2.2.2.2.1 ||| s.2.2.2.2.2.2) s).2.1 = 0 then rdTs T L k (ltr1 T L (rdF T L 7 (s.2.2.2.2.2.1 ||| s.2.2.2.2.2.2) s)) else (rdF T L 7 (s.2.2.2.2.2.1 ||| s.2.2.2.2.2.2) s).2) else s
def rdT (T : Nat → Int32) (L : Nat) (s : Ps) : Ps := rdTs T L 7 (zUD s)
theorem okP_l {T : Nat → Int32} {r : Int32 × Ps} (h : okP L r.2) : okP L (ltr1 T L r) := by
  unfold ltr1
  split
  · exact okP_step (okP_oD h)
  · exact h
theorem okP_Ts {T : Nat → Int32} : ∀ (k : Nat) (s : Ps), okP L s → okP L (rdTs T L k s)
  | 0, _, h => h
  | k + 1, s, h => by
    rw [rdTs]
    split
    · split
      · exact okP_Ts k _ (okP_l (okP_F h))
      · exact okP_F h
    · exact h
theorem okP_T {T : Nat → Int32} (h : okP L s) : okP L (rdT T L s) := okP_Ts _ _ h
set_option maxRecDepth 100000 in
theorem c_X6_readLetters (hM : x_Lay MR) (hS2 : x_S2 X) (hL : L ≤ 600) (hl : D 14 5 = nI L) (ok : okP L s) {i : Nat} (hi : i < 9) : Cf X yX6_readLetters cX6_readLetters 4 (some .int) 7 [.ref 14, .ref (1001 + i)] n SH (laP D s) ML MR (some (.int (rdL (D 15) L i s).1)) (laP D (rdL (D 15) L i s).2) ML MR := by
  have h6 := x_sl_le i hi
  refine Ct_of (by decide) (Nat.le_of_ble_eq_true rfl) (fun G hG => ?_)
  have loop : ∀ k, k ≤ x_sl' i + 1 → ∀ q : Int32 × Ps, okP L q.2 → rdL (D 15) L i s = rdLs (D 15) L i (x_sl' i + 1 - k) q → RW X G RX6 cX6_readLetters 4 (x_rm 7 0 0) n SH (laP D q.2) ML MR 0 0 4 [(3, .int (nI k)), (2, .int q.1), (0, .ref 14), (1, .ref (1001 + i))] [] := by
    refine bwd (fun k hk ih q okq he => ?_)
    have hstep : k ≤ x_sl' i → rdLs (D 15) L i (x_sl' i + 1 - k) q = if q.2.1 = 0 ∧ q.2.2.2.1 = 1 then rdLs (D 15) L i (x_sl' i + 1 - (k + 1)) (rdL1 (D 15) L i q) else q := fun h => by rw [show x_sl' i + 1 - k = (x_sl' i + 1 - (k + 1)) + 1 by omega, rdLs]
    refine r_iload_n 0 rfl dX6_readLetters_4 ?_
    refine r_aload_n 3 rfl dX6_readLetters_5 ?_
    refine r_VRf [] dX6_readLetters_6 lk_X6_101 mb_J0_length_8abf5 in_J0_length_8abf5 se_J0_length_8abf5 rfl (c_J0_length_8abf5 hS2 hi) hS2 (by omega) rfl rfl (Nat.le_of_ble_eq_true rfl) (rfl) ?_
    refine r_icmpgt (tgt := 42) dX6_readLetters_9 (by decide) (fun zh9 => ?_) (fun zh9 => ?_)
    · refine r_iload_n 1 rfl dX6_readLetters_42 ?_
      exact r_iret hG dX6_readLetters_43 (by first
  | (have h9 : x_sl' i < k := (nI_ltI (by omega) (by omega)).mp zh9
     have h10 : rdL (D 15) L i s = q := by rw [he, show x_sl' i + 1 - k = 0 by omega]; rfl
     rw [h10]
     exact ⟨rfl, rfl, rfl, rfl⟩)
  | (rw [laP_f] at zh16
     have h10 : rdL (D 15) L i s = q := by rw [he, hstep hlt, if_neg (fun z => zh16 z.1)]
     rw [h10]
     exact ⟨rfl, rfl, rfl, rfl⟩)
  | (rw [laP_k] at zh24
     have h10 : rdL (D 15) L i s = q := by rw [he, hstep hlt, if_neg (fun z => zh24 z.2)]
     rw [h10]
     exact ⟨rfl, rfl, rfl, rfl⟩))
    · have hlt : k ≤ x_sl' i := Nat.not_lt.mp fun z => zh9 (nI_lt z (by omega))
      refine r_aload_n 2 rfl dX6_readLetters_12 ?_
      refine r_geti dX6_readLetters_13 fl_X6_32 rfl ?_
      refine r_ifne (tgt := 42) dX6_readLetters_16 (by decide) (fun zh16 => ?_) (fun zh16 => ?_)
      · refine r_iload_n 1 rfl dX6_readLetters_42 ?_
        exact r_iret hG dX6_readLetters_43 (by first
  | (have h9 : x_sl' i < k := (nI_ltI (by omega) (by omega)).mp zh9
     have h10 : rdL (D 15) L i s = q := by rw [he, show x_sl' i + 1 - k = 0 by omega]; rfl
     rw [h10]
     exact ⟨rfl, rfl, rfl, rfl⟩)
  | (rw [laP_f] at zh16
     have h10 : rdL (D 15) L i s = q := by rw [he, hstep hlt, if_neg (fun z => zh16 z.1)]
     rw [h10]
     exact ⟨rfl, rfl, rfl, rfl⟩)
  | (rw [laP_k] at zh24
     have h10 : rdL (D 15) L i s = q := by rw [he, hstep hlt, if_neg (fun z => zh24 z.2)]
     rw [h10]
     exact ⟨rfl, rfl, rfl, rfl⟩))
      · refine r_aload_n 2 rfl dX6_readLetters_19 ?_
        refine r_geti dX6_readLetters_20 fl_X6_76 rfl ?_
        refine r_iconst (v := 1) rfl dX6_readLetters_23 ?_
        refine r_icmpne (tgt := 42) dX6_readLetters_24 (by decide) (fun zh24 => ?_) (fun zh24 => ?_)
        · refine r_iload_n 1 rfl dX6_readLetters_42 ?_
          exact r_iret hG dX6_readLetters_43 (by first
  | (have h9 : x_sl' i < k := (nI_ltI (by omega) (by omega)).mp zh9
     have h10 : rdL (D 15) L i s = q := by rw [he, show x_sl' i + 1 - k = 0 by omega]; rfl
     rw [h10]
     exact ⟨rfl, rfl, rfl, rfl⟩)
  | (rw [laP_f] at zh16
     have h10 : rdL (D 15) L i s = q := by rw [he, hstep hlt, if_neg (fun z => zh16 z.1)]
     rw [h10]
     exact ⟨rfl, rfl, rfl, rfl⟩)
  | (rw [laP_k] at zh24
     have h10 : rdL (D 15) L i s = q := by rw [he, hstep hlt, if_neg (fun z => zh24 z.2)]
     rw [h10]
     exact ⟨rfl, rfl, rfl, rfl⟩))
        · refine r_iload_n 1 rfl dX6_readLetters_27 ?_
          refine r_aload_n 2 rfl dX6_readLetters_28 ?_
          refine r_aload_n 3 rfl dX6_readLetters_29 ?_
          refine r_iload_n 1 rfl dX6_readLetters_30 ?_
          refine r_Vf [.ref _, .int _] dX6_readLetters_31 lk_X6_182 mb_X6_readFresh in_X6_readFresh se_X6_readFresh rfl (c_X6_readFresh hM hS2 hL hl okq hi) rfl rfl rfl (Nat.le_of_ble_eq_true rfl) (rfl) ?_
          refine r_ior dX6_readLetters_34 ?_
          refine r_istore_n (ls2 := [(2, .int (rdL1 (D 15) L i q).1), (3, .int (nI k)), (0, .ref 14), (1, .ref (1001 + i))]) dX6_readLetters_35 (by decide) rfl ?_
          refine r_iinc (v := (nI (k + 1))) (ls2 := [(3, .int (nI (k + 1))), (2, .int (rdL1 (D 15) L i q).1), (0, .ref 14), (1, .ref (1001 + i))]) 1 dX6_readLetters_36 rfl (x_inc k) (by decide) rfl ?_
          refine r_goto (tgt := 4) dX6_readLetters_39 (by decide) ?_
          rw [laP_f] at zh16
          rw [laP_k] at zh24
          exact ih (by omega) (rdL1 (D 15) L i q) (okP_L1 okq) (by rw [he, hstep hlt, if_pos ⟨zh16, zh24⟩])
  refine r_iconst (v := 0) rfl dX6_readLetters_0 ?_
  refine r_istore_n (ls2 := [(2, .int 0), (0, .ref 14), (1, .ref (1001 + i))]) dX6_readLetters_1 (by decide) rfl ?_
  refine r_iconst (v := 0) rfl dX6_readLetters_2 ?_
  refine r_istore_n (ls2 := [(3, .int 0), (2, .int 0), (0, .ref 14), (1, .ref (1001 + i))]) dX6_readLetters_3 (by decide) rfl ?_
  exact loop 0 (by omega) (0, s) ok rfl
set_option maxRecDepth 100000 in
theorem c_X6_readChanges (hM : x_Lay MR) (hS2 : x_S2 X) (hL : L ≤ 600) (hl : D 14 5 = nI L) (ok : okP L s) {i : Nat} (hi : i < 9) : Cf X yX6_readChanges cX6_readChanges 4 none 7 [.ref 14, .ref (1001 + i)] n SH (laP D s) ML MR none (laP D (rdC (D 15) L i s)) ML MR := by
  have h6 := x_sl_le i hi
  refine Ct_of (by decide) (Nat.le_of_ble_eq_true rfl) (fun G hG => ?_)
  have loop : ∀ k, k ≤ x_sl' i + 1 → ∀ q : Ps, okP L q → rdC (D 15) L i s = rdCs (D 15) L i (x_sl' i + 1 - k) q → RW X G RX6 cX6_readChanges 4 (x_rm 7 0 0) n SH (laP D q) ML MR 0 0 12 [(2, .int (nI k)), (0, .ref 14), (1, .ref (1001 + i))] [] := by
    refine bwd (fun k hk ih q okq he => ?_)
    have hstep : k ≤ x_sl' i → rdCs (D 15) L i (x_sl' i + 1 - k) q = if q.1 = 0 ∧ q.2.2.1 = 1 then rdCs (D 15) L i (x_sl' i + 1 - (k + 1)) (chg1 (D 15) L i q) else q := fun h => by rw [show x_sl' i + 1 - k = (x_sl' i + 1 - (k + 1)) + 1 by omega, rdCs]
    obtain ⟨r, hr⟩ : ∃ r, r = rdF (D 15) L i (q.2.2.2.2.2.1 ||| q.2.2.2.2.2.2) q := ⟨_, rfl⟩
    have okr : okP L r.2 := by rw [hr]; exact okP_F okq
    have hc1 : chg1 (D 15) L i q = if (chg2 (D 15) L r).1 = 0 then stepP (D 15) L (chg2 (D 15) L r) else chg2 (D 15) L r := by rw [hr]; rfl
    have tail : k ≤ x_sl' i → q.1 = 0 → q.2.2.1 = 1 → RW X G RX6 cX6_readChanges 4 (x_rm 7 0 0) n SH (laP D (chg2 (D 15) L r)) ML MR 0 0 99 [(3, .int r.1), (2, .int (nI k)), (0, .ref 14), (1, .ref (1001 + i))] [] := by
      intro hlt g1 g2
      refine r_aload_n 2 rfl dX6_readChanges_99 ?_
      refine r_geti dX6_readChanges_100 fl_X6_32 rfl ?_
      refine r_ifne (tgt := 110) dX6_readChanges_103 (by decide) (fun zh103 => ?_) (fun zh103 => ?_)
      · refine r_iinc (v := (nI (k + 1))) (ls2 := [(2, .int (nI (k + 1))), (3, .int r.1), (0, .ref 14), (1, .ref (1001 + i))]) 1 dX6_readChanges_110 rfl (x_inc k) (by decide) rfl ?_
        refine r_goto (tgt := 12) dX6_readChanges_113 (by decide) ?_
        rw [laP_f] at zh103
        refine r_mem ?_ rfl rfl (r_sub [0, 2, 3] rfl (ih (by omega) (chg1 (D 15) L i q) (okP_1 okq) (by rw [he, hstep hlt, if_pos ⟨g1, g2⟩])))
        rw [hc1]
        first | rw [if_pos zh103] | rw [if_neg zh103]
      · refine r_aload_n 2 rfl dX6_readChanges_106 ?_
        refine r_Vn [] dX6_readChanges_107 lk_X6_41 mb_X6_step in_X6_step se_X6_step rfl (c_X6_step hM hS2 hL hl (okP_2 okr)) rfl rfl rfl (Nat.le_of_ble_eq_true rfl) (rfl) ?_
        refine r_iinc (v := (nI (k + 1))) (ls2 := [(2, .int (nI (k + 1))), (3, .int r.1), (0, .ref 14), (1, .ref (1001 + i))]) 1 dX6_readChanges_110 rfl (x_inc k) (by decide) rfl ?_
        refine r_goto (tgt := 12) dX6_readChanges_113 (by decide) ?_
        rw [laP_f] at zh103
        refine r_mem ?_ rfl rfl (r_sub [0, 2, 3] rfl (ih (by omega) (chg1 (D 15) L i q) (okP_1 okq) (by rw [he, hstep hlt, if_pos ⟨g1, g2⟩])))
        rw [hc1]
        first | rw [if_pos zh103] | rw [if_neg zh103]
    refine r_iload_n 0 rfl dX6_readChanges_12 ?_
    refine r_aload_n 2 rfl dX6_readChanges_13 ?_
    refine r_VRf [] dX6_readChanges_14 lk_X6_101 mb_J0_length_8abf5 in_J0_length_8abf5 se_J0_length_8abf5 rfl (c_J0_length_8abf5 hS2 hi) hS2 (by omega) rfl rfl (Nat.le_of_ble_eq_true rfl) (rfl) ?_
    refine r_icmpgt (tgt := 116) dX6_readChanges_17 (by decide) (fun zh17 => ?_) (fun zh17 => ?_)
    · exact r_vret hG dX6_readChanges_116 (by first
  | (have h9 : x_sl' i < k := (nI_ltI (by omega) (by omega)).mp zh17
     exact ⟨rfl, by rw [he, show x_sl' i + 1 - k = 0 by omega]; rfl, rfl, rfl⟩)
  | (rw [laP_f] at zh24
     exact ⟨rfl, by rw [he, hstep hlt, if_neg (fun z => zh24 z.1)], rfl, rfl⟩)
  | (rw [laP_k] at zh32
     exact ⟨rfl, by rw [he, hstep hlt, if_neg (fun z => zh32 z.2)], rfl, rfl⟩))
    · have hlt : k ≤ x_sl' i := Nat.not_lt.mp fun z => zh17 (nI_lt z (by omega))
      refine r_aload_n 1 rfl dX6_readChanges_20 ?_
      refine r_geti dX6_readChanges_21 fl_X6_32 rfl ?_
      refine r_ifne (tgt := 116) dX6_readChanges_24 (by decide) (fun zh24 => ?_) (fun zh24 => ?_)
      · exact r_vret hG dX6_readChanges_116 (by first
  | (have h9 : x_sl' i < k := (nI_ltI (by omega) (by omega)).mp zh17
     exact ⟨rfl, by rw [he, show x_sl' i + 1 - k = 0 by omega]; rfl, rfl, rfl⟩)
  | (rw [laP_f] at zh24
     exact ⟨rfl, by rw [he, hstep hlt, if_neg (fun z => zh24 z.1)], rfl, rfl⟩)
  | (rw [laP_k] at zh32
     exact ⟨rfl, by rw [he, hstep hlt, if_neg (fun z => zh32 z.2)], rfl, rfl⟩))
      · refine r_aload_n 1 rfl dX6_readChanges_27 ?_
        refine r_geti dX6_readChanges_28 fl_X6_76 rfl ?_
        refine r_iconst (v := 1) rfl dX6_readChanges_31 ?_
        refine r_icmpne (tgt := 116) dX6_readChanges_32 (by decide) (fun zh32 => ?_) (fun zh32 => ?_)
        · exact r_vret hG dX6_readChanges_116 (by first
  | (have h9 : x_sl' i < k := (nI_ltI (by omega) (by omega)).mp zh17
     exact ⟨rfl, by rw [he, show x_sl' i + 1 - k = 0 by omega]; rfl, rfl, rfl⟩)
  | (rw [laP_f] at zh24
     exact ⟨rfl, by rw [he, hstep hlt, if_neg (fun z => zh24 z.1)], rfl, rfl⟩)
  | (rw [laP_k] at zh32
     exact ⟨rfl, by rw [he, hstep hlt, if_neg (fun z => zh32 z.2)], rfl, rfl⟩))
        · refine r_aload_n 1 rfl dX6_readChanges_35 ?_
          refine r_aload_n 2 rfl dX6_readChanges_36 ?_
          refine r_aload_n 1 rfl dX6_readChanges_37 ?_
          refine r_geti dX6_readChanges_38 fl_X6_153 rfl ?_
          refine r_aload_n 1 rfl dX6_readChanges_41 ?_
          refine r_geti dX6_readChanges_42 fl_X6_156 rfl ?_
          refine r_ior dX6_readChanges_45 ?_
          refine r_Vf [.ref _, .int _] dX6_readChanges_46 lk_X6_182 mb_X6_readFresh in_X6_readFresh se_X6_readFresh rfl (c_X6_readFresh hM hS2 hL hl okq hi) rfl rfl rfl (Nat.le_of_ble_eq_true rfl) (rfl) ?_
          rw [laP_u, laP_d, ← hr]
          refine r_istore_n (ls2 := [(3, .int r.1), (2, .int (nI k)), (0, .ref 14), (1, .ref (1001 + i))]) dX6_readChanges_49 (by decide) rfl ?_
          refine r_aload_n 2 rfl dX6_readChanges_50 ?_
          refine r_bipush (v := 43) rfl dX6_readChanges_51 ?_
          refine r_Vf [.int _] dX6_readChanges_53 lk_X6_72 mb_X6_isSign in_X6_isSign se_X6_isSign rfl (c_X6_isSign hM hL hl okr) rfl rfl rfl (Nat.le_of_ble_eq_true rfl) (rfl) ?_
          refine r_ifeq (tgt := 72) dX6_readChanges_56 (by decide) (fun zh56 => ?_) (fun zh56 => ?_)
          · refine r_aload_n 2 rfl dX6_readChanges_72 ?_
            refine r_bipush (v := 45) rfl dX6_readChanges_73 ?_
            refine r_Vf [.int _] dX6_readChanges_75 lk_X6_72 mb_X6_isSign in_X6_isSign se_X6_isSign rfl (c_X6_isSign hM hL hl okr) rfl rfl rfl (Nat.le_of_ble_eq_true rfl) (rfl) ?_
            refine r_ifeq (tgt := 94) dX6_readChanges_78 (by decide) (fun zh78 => ?_) (fun zh78 => ?_)
            · refine r_aload_n 2 rfl dX6_readChanges_94 ?_
              refine r_iconst (v := 1) rfl dX6_readChanges_95 ?_
              refine r_Vn [.int _] dX6_readChanges_96 lk_X6_68 mb_X6_fail in_X6_fail se_X6_fail rfl (c_X6_fail) rfl rfl rfl (Nat.le_of_ble_eq_true rfl) (rfl) ?_
              rw [laP_f] at zh24
              rw [laP_k] at zh32
              refine r_mem ?_ rfl rfl (tail hlt zh24 zh32)
              unfold chg2
              first
                | (rw [laP_oU, if_pos (by simpa using zh56)]; done)
                | (rw [laP_oD, if_neg (by simpa using zh56), if_pos (by simpa using zh78)]; done)
                | (rw [if_neg (by simpa using zh56), if_neg (by simpa using zh78)]; done)
            · refine r_aload_n 2 rfl dX6_readChanges_81 ?_
              refine r_dup rfl dX6_readChanges_82 ?_
              refine r_geti dX6_readChanges_83 fl_X6_156 rfl ?_
              refine r_iload_n 0 rfl dX6_readChanges_86 ?_
              refine r_ior dX6_readChanges_87 ?_
              refine r_puti dX6_readChanges_88 fl_X6_156 rfl rfl rfl ?_
              refine r_goto (tgt := 99) dX6_readChanges_91 (by decide) ?_
              rw [laP_f] at zh24
              rw [laP_k] at zh32
              refine r_mem ?_ rfl rfl (tail hlt zh24 zh32)
              unfold chg2
              first
                | (rw [laP_oU, if_pos (by simpa using zh56)]; done)
                | (rw [laP_oD, if_neg (by simpa using zh56), if_pos (by simpa using zh78)]; done)
                | (rw [if_neg (by simpa using zh56), if_neg (by simpa using zh78)]; done)
          · refine r_aload_n 2 rfl dX6_readChanges_59 ?_
            refine r_dup rfl dX6_readChanges_60 ?_
            refine r_geti dX6_readChanges_61 fl_X6_153 rfl ?_
            refine r_iload_n 0 rfl dX6_readChanges_64 ?_
            refine r_ior dX6_readChanges_65 ?_
            refine r_puti dX6_readChanges_66 fl_X6_153 rfl rfl rfl ?_
            refine r_goto (tgt := 99) dX6_readChanges_69 (by decide) ?_
            rw [laP_f] at zh24
            rw [laP_k] at zh32
            refine r_mem ?_ rfl rfl (tail hlt zh24 zh32)
            unfold chg2
            first
              | (rw [laP_oU, if_pos (by simpa using zh56)]; done)
              | (rw [laP_oD, if_neg (by simpa using zh56), if_pos (by simpa using zh78)]; done)
              | (rw [if_neg (by simpa using zh56), if_neg (by simpa using zh78)]; done)
  refine r_aload_n 0 rfl dX6_readChanges_0 ?_
  refine r_iconst (v := 0) rfl dX6_readChanges_1 ?_
  refine r_puti dX6_readChanges_2 fl_X6_153 rfl rfl rfl ?_
  refine r_aload_n 0 rfl dX6_readChanges_5 ?_
  refine r_iconst (v := 0) rfl dX6_readChanges_6 ?_
  refine r_puti dX6_readChanges_7 fl_X6_156 rfl rfl rfl ?_
  rw [laP_z]
  refine r_iconst (v := 0) rfl dX6_readChanges_10 ?_
  refine r_istore_n (ls2 := [(2, .int 0), (0, .ref 14), (1, .ref (1001 + i))]) dX6_readChanges_11 (by decide) rfl ?_
  exact loop 0 (by omega) (zUD s) (okP_zUD ok) rfl
set_option maxRecDepth 100000 in
theorem c_X6_readLiterals (hM : x_Lay MR) (hS2 : x_S2 X) (hL : L ≤ 600) (hl : D 14 5 = nI L) (ok : okP L s) : Cf X yX6_readLiterals cX6_readLiterals 3 none 7 [.ref 14] n SH (laP D s) ML MR none (laP D (rdT (D 15) L s)) ML MR := by
  refine Ct_of (by decide) (Nat.le_of_ble_eq_true rfl) (fun G hG => ?_)
  have loop : ∀ k, k ≤ 7 → ∀ q : Ps, okP L q → rdT (D 15) L s = rdTs (D 15) L (7 - k) q → RW X G RX6 cX6_readLiterals 3 (x_rm 7 0 0) n SH (laP D q) ML MR 0 0 12 [(1, .int (nI k)), (0, .ref 14)] [] := by
    refine bwd (fun k hk ih q okq he => ?_)
    obtain ⟨r, hr⟩ : ∃ r, r = rdF (D 15) L 7 (q.2.2.2.2.2.1 ||| q.2.2.2.2.2.2) q := ⟨_, rfl⟩
    have okr : okP L r.2 := by rw [hr]; exact okP_F okq
    have hstep : k ≤ 6 → rdTs (D 15) L (7 - k) q = if q.2.2.1 = 1 then (if r.2.1 = 0 then rdTs (D 15) L (7 - (k + 1)) (ltr1 (D 15) L r) else r.2) else q := fun h => by rw [show 7 - k = (7 - (k + 1)) + 1 by omega, rdTs, hr]
    refine r_iload_n 0 rfl dX6_readLiterals_12 ?_
    refine r_bipush (v := 6) rfl dX6_readLiterals_13 ?_
    refine r_icmpgt (tgt := 92) dX6_readLiterals_15 (by decide) (fun zh15 => ?_) (fun zh15 => ?_)
    · exact r_vret hG dX6_readLiterals_92 (by first
  | (have h9 : 6 < k := (nI_ltI (a := 6) (by omega) (by omega)).mp zh15
     exact ⟨rfl, by rw [he, show 7 - k = 0 by omega]; rfl, rfl, rfl⟩)
  | (rw [laP_f] at zh46
     rw [laP_k] at zh23
     exact ⟨rfl, by rw [he, hstep hlt, if_pos zh23, if_neg zh46], rfl, rfl⟩)
  | (rw [laP_k] at zh23
     exact ⟨rfl, by rw [he, hstep hlt, if_neg zh23], rfl, rfl⟩))
    · have hlt : k ≤ 6 := Nat.not_lt.mp fun z => zh15 (nI_lt z (by omega))
      refine r_aload_n 1 rfl dX6_readLiterals_18 ?_
      refine r_geti dX6_readLiterals_19 fl_X6_76 rfl ?_
      refine r_iconst (v := 1) rfl dX6_readLiterals_22 ?_
      refine r_icmpne (tgt := 92) dX6_readLiterals_23 (by decide) (fun zh23 => ?_) (fun zh23 => ?_)
      · exact r_vret hG dX6_readLiterals_92 (by first
  | (have h9 : 6 < k := (nI_ltI (a := 6) (by omega) (by omega)).mp zh15
     exact ⟨rfl, by rw [he, show 7 - k = 0 by omega]; rfl, rfl, rfl⟩)
  | (rw [laP_f] at zh46
     rw [laP_k] at zh23
     exact ⟨rfl, by rw [he, hstep hlt, if_pos zh23, if_neg zh46], rfl, rfl⟩)
  | (rw [laP_k] at zh23
     exact ⟨rfl, by rw [he, hstep hlt, if_neg zh23], rfl, rfl⟩))
      · refine r_aload_n 1 rfl dX6_readLiterals_26 ?_
        refine r_ldcS (k0 := 1008) sr_X6_180 (by decide) dX6_readLiterals_27 ?_
        refine r_aload_n 1 rfl dX6_readLiterals_29 ?_
        refine r_geti dX6_readLiterals_30 fl_X6_153 rfl ?_
        refine r_aload_n 1 rfl dX6_readLiterals_33 ?_
        refine r_geti dX6_readLiterals_34 fl_X6_156 rfl ?_
        refine r_ior dX6_readLiterals_37 ?_
        refine r_Vf [.ref _, .int _] dX6_readLiterals_38 lk_X6_182 mb_X6_readFresh in_X6_readFresh se_X6_readFresh rfl (c_X6_readFresh hM hS2 hL hl okq (i := 7) (by decide)) rfl rfl rfl (Nat.le_of_ble_eq_true rfl) (rfl) ?_
        rw [laP_u, laP_d, ← hr]
        refine r_istore_n (ls2 := [(2, .int r.1), (1, .int (nI k)), (0, .ref 14)]) dX6_readLiterals_41 (by decide) rfl ?_
        refine r_aload_n 2 rfl dX6_readLiterals_42 ?_
        refine r_geti dX6_readLiterals_43 fl_X6_32 rfl ?_
        refine r_ifeq (tgt := 50) dX6_readLiterals_46 (by decide) (fun zh46 => ?_) (fun zh46 => ?_)
        · refine r_aload_n 2 rfl dX6_readLiterals_50 ?_
          refine r_bipush (v := 39) rfl dX6_readLiterals_51 ?_
          refine r_Vf [.int _] dX6_readLiterals_53 lk_X6_72 mb_X6_isSign in_X6_isSign se_X6_isSign rfl (c_X6_isSign hM hL hl okr) rfl rfl rfl (Nat.le_of_ble_eq_true rfl) (rfl) ?_
          refine r_ifeq (tgt := 76) dX6_readLiterals_56 (by decide) (fun zh56 => ?_) (fun zh56 => ?_)
          · refine r_aload_n 2 rfl dX6_readLiterals_76 ?_
            refine r_dup rfl dX6_readLiterals_77 ?_
            refine r_geti dX6_readLiterals_78 fl_X6_153 rfl ?_
            refine r_iload_n 0 rfl dX6_readLiterals_81 ?_
            refine r_ior dX6_readLiterals_82 ?_
            refine r_puti dX6_readLiterals_83 fl_X6_153 rfl rfl rfl ?_
            refine r_iinc (v := (nI (k + 1))) (ls2 := [(1, .int (nI (k + 1))), (2, .int r.1), (0, .ref 14)]) 1 dX6_readLiterals_86 rfl (x_inc k) (by decide) rfl ?_
            refine r_goto (tgt := 12) dX6_readLiterals_89 (by decide) ?_
            rw [laP_f] at zh46
            rw [laP_k] at zh23
            refine r_mem ?_ rfl rfl (r_sub [0, 2] rfl (ih (by omega) (ltr1 (D 15) L r) (okP_l okr) (by rw [he, hstep hlt, if_pos zh23, if_pos zh46])))
            unfold ltr1
            first
              | (rw [if_pos (by simpa using zh56)]; done)
              | (rw [laP_oU, if_neg (by simpa using zh56)]; done)
          · refine r_aload_n 2 rfl dX6_readLiterals_59 ?_
            refine r_dup rfl dX6_readLiterals_60 ?_
            refine r_geti dX6_readLiterals_61 fl_X6_156 rfl ?_
            refine r_iload_n 0 rfl dX6_readLiterals_64 ?_
            refine r_ior dX6_readLiterals_65 ?_
            refine r_puti dX6_readLiterals_66 fl_X6_156 rfl rfl rfl ?_
            rw [laP_oD]
            refine r_aload_n 2 rfl dX6_readLiterals_69 ?_
            refine r_Vn [] dX6_readLiterals_70 lk_X6_41 mb_X6_step in_X6_step se_X6_step rfl (c_X6_step hM hS2 hL hl (okP_oD okr)) rfl rfl rfl (Nat.le_of_ble_eq_true rfl) (rfl) ?_
            refine r_goto (tgt := 86) dX6_readLiterals_73 (by decide) ?_
            refine r_iinc (v := (nI (k + 1))) (ls2 := [(1, .int (nI (k + 1))), (2, .int r.1), (0, .ref 14)]) 1 dX6_readLiterals_86 rfl (x_inc k) (by decide) rfl ?_
            refine r_goto (tgt := 12) dX6_readLiterals_89 (by decide) ?_
            rw [laP_f] at zh46
            rw [laP_k] at zh23
            refine r_mem ?_ rfl rfl (r_sub [0, 2] rfl (ih (by omega) (ltr1 (D 15) L r) (okP_l okr) (by rw [he, hstep hlt, if_pos zh23, if_pos zh46])))
            unfold ltr1
            first
              | (rw [if_pos (by simpa using zh56)]; done)
              | (rw [laP_oU, if_neg (by simpa using zh56)]; done)
        · exact r_vret hG dX6_readLiterals_49 (by first
  | (have h9 : 6 < k := (nI_ltI (a := 6) (by omega) (by omega)).mp zh15
     exact ⟨rfl, by rw [he, show 7 - k = 0 by omega]; rfl, rfl, rfl⟩)
  | (rw [laP_f] at zh46
     rw [laP_k] at zh23
     exact ⟨rfl, by rw [he, hstep hlt, if_pos zh23, if_neg zh46], rfl, rfl⟩)
  | (rw [laP_k] at zh23
     exact ⟨rfl, by rw [he, hstep hlt, if_neg zh23], rfl, rfl⟩))
  refine r_aload_n 0 rfl dX6_readLiterals_0 ?_
  refine r_iconst (v := 0) rfl dX6_readLiterals_1 ?_
  refine r_puti dX6_readLiterals_2 fl_X6_153 rfl rfl rfl ?_
  refine r_aload_n 0 rfl dX6_readLiterals_5 ?_
  refine r_iconst (v := 0) rfl dX6_readLiterals_6 ?_
  refine r_puti dX6_readLiterals_7 fl_X6_156 rfl rfl rfl ?_
  rw [laP_z]
  refine r_iconst (v := 0) rfl dX6_readLiterals_10 ?_
  refine r_istore_n (ls2 := [(1, .int 0), (0, .ref 14)]) dX6_readLiterals_11 (by decide) rfl ?_
  exact loop 0 (by omega) (zUD s) (okP_zUD ok) rfl
end reader3

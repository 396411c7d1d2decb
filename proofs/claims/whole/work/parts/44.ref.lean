/-! the reference: 124; its small helpers -/
def inB (v lo hi : Int32) : Bool := decide (¬ v < lo ∧ ¬ hi < v)
def bitR (s k : Int32) : Bool := decide ((s >>> (k &&& 31)) &&& 1 = 1)
def hasL (p : Int64) (k : Int32) : Bool := decide ((p >>> (k.toInt64 &&& 63)) &&& 1 = 1)
theorem and1n (x : Int32) : (x &&& 1).toBitVec.toNat = x.toBitVec.toNat % 2 := by
  show (x.toBitVec &&& 1#32).toNat = _
  rw [BitVec.toNat_and]
  exact Nat.and_one_is_mod _
theorem and1 (x : Int32) : ¬ x &&& 1 = 0 ↔ x &&& 1 = 1 := by
  have h := and1n x
  have e0 : x &&& 1 = 0 ↔ (x &&& 1).toBitVec.toNat = 0 := by rw [← Int32.toBitVec_inj, BitVec.toNat_eq]; rfl
  have e1 : x &&& 1 = 1 ↔ (x &&& 1).toBitVec.toNat = 1 := by rw [← Int32.toBitVec_inj, BitVec.toNat_eq]; rfl
  rw [e0, e1, h]
  omega
theorem bitR_Z (s : Int32) (f : Nat) : bitR s (nI f) = !bitZ s f := by
  unfold bitR bitZ
  by_cases h : (s >>> (nI f &&& 31)) &&& 1 = 0
  · rw [decide_eq_true h, decide_eq_false (fun q => (and1 _).mpr q h)]; rfl
  · rw [decide_eq_false h, decide_eq_true ((and1 _).mp h)]; rfl
def rfM (MI : Nat → Nat → Int32) (x : Int32) : Nat → Nat → Int32 := u2 (u2 MI 124 1 x) 124 2 (-1)
def byR (T : Nat → Int32) (L i : Nat) : Int32 := if i < L then T i &&& 255 else -1
section ref1
variable {X : xG} {n : Nat} {MI : Nat → Nat → Int32} {ML : Nat → Nat → Int64} {MR : Nat → Nat → Option Nat}
set_option maxRecDepth 100000 in
theorem c_X11_thrown : Cf X yX11_thrown cX11_thrown 1 (some .int) 1 [.ref 124] n SH MI ML MR (some (.int (MI 124 0))) MI ML MR := by
  refine Ct_of (by decide) (Nat.le_of_ble_eq_true rfl) (fun G hG => ?_)
  refine r_aload_n 0 rfl dX11_thrown_0 ?_
  refine r_geti dX11_thrown_1 fl_X11_3 rfl ?_
  exact r_iret hG dX11_thrown_4 (⟨rfl, rfl, rfl, rfl⟩)
set_option maxRecDepth 100000 in
theorem c_X11_refused {x : Int32} : Cf X yX11_refused cX11_refused 2 (some .int) 1 [.ref 124, .int x] n SH MI ML MR (some (.int (-1))) (rfM MI x) ML MR := by
  refine Ct_of (by decide) (Nat.le_of_ble_eq_true rfl) (fun G hG => ?_)
  refine r_aload_n 0 rfl dX11_refused_0 ?_
  refine r_iload_n 1 rfl dX11_refused_1 ?_
  refine r_puti dX11_refused_2 fl_X11_7 rfl rfl rfl ?_
  refine r_aload_n 0 rfl dX11_refused_5 ?_
  refine r_iconst (v := (-1)) rfl dX11_refused_6 ?_
  refine r_puti dX11_refused_7 fl_X11_10 rfl rfl rfl ?_
  refine r_iconst (v := (-1)) rfl dX11_refused_10 ?_
  exact r_iret hG dX11_refused_11 (⟨rfl, rfl, rfl, rfl⟩)
set_option maxRecDepth 100000 in
theorem c_X11_good {x : Int32} : Cf X yX11_good cX11_good 2 (some .int) 1 [.ref 124, .int x] n SH MI ML MR (some (.int x)) (rfM MI 0) ML MR := by
  refine Ct_of (by decide) (Nat.le_of_ble_eq_true rfl) (fun G hG => ?_)
  refine r_aload_n 0 rfl dX11_good_0 ?_
  refine r_iconst (v := 0) rfl dX11_good_1 ?_
  refine r_puti dX11_good_2 fl_X11_7 rfl rfl rfl ?_
  refine r_aload_n 0 rfl dX11_good_5 ?_
  refine r_iconst (v := (-1)) rfl dX11_good_6 ?_
  refine r_puti dX11_good_7 fl_X11_10 rfl rfl rfl ?_
  refine r_iload_n 1 rfl dX11_good_10 ?_
  exact r_iret hG dX11_good_11 (⟨rfl, rfl, rfl, rfl⟩)
set_option maxRecDepth 100000 in
theorem c_X11_in {v lo hi : Int32} : Cf X yX11_in cX11_in 3 (some .boolean) 1 [.int v, .int lo, .int hi] n SH MI ML MR (some (.int (b2 (inB v lo hi)))) MI ML MR := by
  refine Ct_of (by decide) (Nat.le_of_ble_eq_true rfl) (fun G hG => ?_)
  refine r_iload_n 0 rfl dX11_in_0 ?_
  refine r_iload_n 1 rfl dX11_in_1 ?_
  refine r_icmplt (tgt := 14) dX11_in_2 (by decide) (fun zh2 => ?_) (fun zh2 => ?_)
  · refine r_iconst (v := 0) rfl dX11_in_14 ?_
    exact r_zret hG dX11_in_15 (rfl) (⟨by simp_all [inB, b2], rfl, rfl, rfl⟩)
  · refine r_iload_n 0 rfl dX11_in_5 ?_
    refine r_iload_n 2 rfl dX11_in_6 ?_
    refine r_icmpgt (tgt := 14) dX11_in_7 (by decide) (fun zh7 => ?_) (fun zh7 => ?_)
    · refine r_iconst (v := 0) rfl dX11_in_14 ?_
      exact r_zret hG dX11_in_15 (rfl) (⟨by simp_all [inB, b2], rfl, rfl, rfl⟩)
    · refine r_iconst (v := 1) rfl dX11_in_10 ?_
      refine r_goto (tgt := 15) dX11_in_11 (by decide) ?_
      exact r_zret hG dX11_in_15 (rfl) (⟨by simp_all [inB, b2], rfl, rfl, rfl⟩)
set_option maxRecDepth 100000 in
theorem c_X11_bit {s k : Int32} : Cf X yX11_bit cX11_bit 2 (some .boolean) 1 [.int s, .int k] n SH MI ML MR (some (.int (b2 (bitR s k)))) MI ML MR := by
  refine Ct_of (by decide) (Nat.le_of_ble_eq_true rfl) (fun G hG => ?_)
  refine r_iload_n 0 rfl dX11_bit_0 ?_
  refine r_iload_n 1 rfl dX11_bit_1 ?_
  refine r_ishr dX11_bit_2 ?_
  refine r_iconst (v := 1) rfl dX11_bit_3 ?_
  refine r_iand dX11_bit_4 ?_
  refine r_iconst (v := 1) rfl dX11_bit_5 ?_
  refine r_icmpne (tgt := 13) dX11_bit_6 (by decide) (fun zh6 => ?_) (fun zh6 => ?_)
  · refine r_iconst (v := 0) rfl dX11_bit_13 ?_
    exact r_zret hG dX11_bit_14 (rfl) (⟨by simp_all [bitR, b2], rfl, rfl, rfl⟩)
  · refine r_iconst (v := 1) rfl dX11_bit_9 ?_
    refine r_goto (tgt := 14) dX11_bit_10 (by decide) ?_
    exact r_zret hG dX11_bit_14 (rfl) (⟨by simp_all [bitR, b2], rfl, rfl, rfl⟩)
set_option maxRecDepth 100000 in
theorem c_X11_has {p : Int64} {k : Int32} : Cf X yX11_has cX11_has 3 (some .boolean) 1 [.long p, .int k] n SH MI ML MR (some (.int (b2 (hasL p k)))) MI ML MR := by
  refine Ct_of (by decide) (Nat.le_of_ble_eq_true rfl) (fun G hG => ?_)
  refine r_lload_n 0 rfl dX11_has_0 ?_
  refine r_iload_n 1 rfl dX11_has_1 ?_
  refine r_lshr dX11_has_2 ?_
  refine r_lconst (v := 1) rfl dX11_has_3 ?_
  refine r_land dX11_has_4 ?_
  refine r_lconst (v := 1) rfl dX11_has_5 ?_
  refine r_lcmp dX11_has_6 ?_
  refine r_ifne (tgt := 14) dX11_has_7 (by decide) (fun zh7 => ?_) (fun zh7 => ?_)
  · refine r_iconst (v := 0) rfl dX11_has_14 ?_
    exact r_zret hG dX11_has_15 (rfl) (⟨by simp_all [hasL, b2, lcmp_eq, lcmp_ne], rfl, rfl, rfl⟩)
  · refine r_iconst (v := 1) rfl dX11_has_10 ?_
    refine r_goto (tgt := 15) dX11_has_11 (by decide) ?_
    exact r_zret hG dX11_has_15 (rfl) (⟨by simp_all [hasL, b2, lcmp_eq, lcmp_ne], rfl, rfl, rfl⟩)
set_option maxRecDepth 100000 in
theorem c_X11_cubeOf {p f : Int32} : Cf X yX11_cubeOf cX11_cubeOf 4 (some .int) 2 [.int p, .int f] n SH MI ML MR (some (.int (numC p f 6))) MI ML MR := by
  refine Ct_of (by decide) (Nat.le_of_ble_eq_true rfl) (fun G hG => ?_)
  have loop : ∀ i, i ≤ 6 → RW X G RX11 cX11_cubeOf 4 (x_rm 2 0 0) n SH MI ML MR 0 0 4 [(3, .int (nI i)), (2, .int (numC p f i)), (0, .int p), (1, .int f)] [] := by
    refine bwd (fun i hi ih => ?_)
    refine r_iload_n 0 rfl dX11_cubeOf_4 ?_
    refine r_bipush (v := 6) rfl dX11_cubeOf_5 ?_
    refine r_icmpge (tgt := 38) dX11_cubeOf_7 (by decide) (fun zh7 => ?_) (fun zh7 => ?_)
    · obtain rfl : i = 6 := by have := geL (k := 6) (by decide) (by omega) zh7; omega
      refine r_iload_n 1 rfl dX11_cubeOf_38 ?_
      exact r_iret hG dX11_cubeOf_39 (⟨rfl, rfl, rfl, rfl⟩)
    · have hlt : i < 6 := ltL (by omega) zh7
      refine r_iconst (v := 3) rfl dX11_cubeOf_10 ?_
      refine r_iload_n 1 rfl dX11_cubeOf_11 ?_
      refine r_imul dX11_cubeOf_12 ?_
      refine r_iload_n 3 rfl dX11_cubeOf_13 ?_
      refine r_iload_n 0 rfl dX11_cubeOf_14 ?_
      refine r_Sf [.int _, .int _] dX11_cubeOf_15 lk_X11_114 mb_X11_bit sc_X11_bit rfl (c_X11_bit) rfl (Nat.le_of_ble_eq_true rfl) (rfl) ?_
      refine r_ifeq (tgt := 25) dX11_cubeOf_18 (by decide) (fun zh18 => ?_) (fun zh18 => ?_)
      · refine r_iload_n 2 rfl dX11_cubeOf_25 ?_
        refine r_iload_n 0 rfl dX11_cubeOf_26 ?_
        refine r_ishr dX11_cubeOf_27 ?_
        refine r_iconst (v := 1) rfl dX11_cubeOf_28 ?_
        refine r_iand dX11_cubeOf_29 ?_
        refine r_iadd dX11_cubeOf_30 ?_
        refine r_nmi (fun zv31 ze31 => ?_)
        refine r_istore_n (ls2 := [(2, .int zv31), (3, .int (nI i)), (0, .int p), (1, .int f)]) dX11_cubeOf_31 (by decide) rfl ?_
        refine r_iinc (v := (nI (i + 1))) (ls2 := [(3, .int (nI (i + 1))), (2, .int zv31), (0, .int p), (1, .int f)]) 1 dX11_cubeOf_32 rfl (x_inc i) (by decide) rfl ?_
        refine r_goto (tgt := 4) dX11_cubeOf_35 (by decide) ?_
        rw [b2z, bitR_Z] at zh18
        obtain rfl : zv31 = numC p f (i + 1) := by rw [ze31, Int32.mul_comm]; simp_all [numC]
        exact r_sub [0, 1, 2, 3] rfl (ih hlt)
      · refine r_iconst (v := 2) rfl dX11_cubeOf_21 ?_
        refine r_goto (tgt := 30) dX11_cubeOf_22 (by decide) ?_
        refine r_iadd dX11_cubeOf_30 ?_
        refine r_nmi (fun zv31 ze31 => ?_)
        refine r_istore_n (ls2 := [(2, .int zv31), (3, .int (nI i)), (0, .int p), (1, .int f)]) dX11_cubeOf_31 (by decide) rfl ?_
        refine r_iinc (v := (nI (i + 1))) (ls2 := [(3, .int (nI (i + 1))), (2, .int zv31), (0, .int p), (1, .int f)]) 1 dX11_cubeOf_32 rfl (x_inc i) (by decide) rfl ?_
        refine r_goto (tgt := 4) dX11_cubeOf_35 (by decide) ?_
        rw [b2z, bitR_Z] at zh18
        obtain rfl : zv31 = numC p f (i + 1) := by rw [ze31, Int32.mul_comm]; simp_all [numC]
        exact r_sub [0, 1, 2, 3] rfl (ih hlt)
  refine r_iconst (v := 0) rfl dX11_cubeOf_0 ?_
  refine r_istore_n (ls2 := [(2, .int 0), (0, .int p), (1, .int f)]) dX11_cubeOf_1 (by decide) rfl ?_
  refine r_iconst (v := 0) rfl dX11_cubeOf_2 ?_
  refine r_istore_n (ls2 := [(3, .int 0), (2, .int 0), (0, .int p), (1, .int f)]) dX11_cubeOf_3 (by decide) rfl ?_
  exact r_sub [0, 1, 2, 3] rfl (loop 0 (by decide))
set_option maxRecDepth 100000 in
theorem c_X11_liesIn (hM : x_Lay MR) {c o : Nat} (hc : c < 729) (ho : o < 729) : Cf X yX11_liesIn cX11_liesIn 3 (some .boolean) 1 [.ref 124, .int (nI c), .int (nI o)] n SH MI ML MR (some (.int (b2 (decide (ML 125 c &&& (ML 125 o ^^^ -1) = 0))))) MI ML MR := by
  refine Ct_of (by decide) (Nat.le_of_ble_eq_true rfl) (fun G hG => ?_)
  refine r_aload_n 0 rfl dX11_liesIn_0 ?_
  refine r_getr dX11_liesIn_1 fl_X11_19 rfl (hM _ _ _ rfl) ?_
  refine r_iload_n 1 rfl dX11_liesIn_4 ?_
  refine r_lald dX11_liesIn_5 rfl (vp_in_nI hc (by decide)) ?_
  refine r_aload_n 0 rfl dX11_liesIn_6 ?_
  refine r_getr dX11_liesIn_7 fl_X11_19 rfl (hM _ _ _ rfl) ?_
  refine r_iload_n 2 rfl dX11_liesIn_10 ?_
  refine r_lald dX11_liesIn_11 rfl (vp_in_nI ho (by decide)) ?_
  refine r_ldc2 kl_X11_117 dX11_liesIn_12 ?_
  refine r_lxor dX11_liesIn_15 ?_
  refine r_land dX11_liesIn_16 ?_
  refine r_lconst (v := 0) rfl dX11_liesIn_17 ?_
  refine r_lcmp dX11_liesIn_18 ?_
  refine r_ifne (tgt := 26) dX11_liesIn_19 (by decide) (fun zh19 => ?_) (fun zh19 => ?_)
  · refine r_iconst (v := 0) rfl dX11_liesIn_26 ?_
    exact r_zret hG dX11_liesIn_27 (rfl) (⟨by rw [nI_clamp (by omega), nI_clamp (by omega)] at zh19; simp_all [b2, lcmp_eq, lcmp_ne], rfl, rfl, rfl⟩)
  · refine r_iconst (v := 1) rfl dX11_liesIn_22 ?_
    refine r_goto (tgt := 27) dX11_liesIn_23 (by decide) ?_
    exact r_zret hG dX11_liesIn_27 (rfl) (⟨by rw [nI_clamp (by omega), nI_clamp (by omega)] at zh19; simp_all [b2, lcmp_eq, lcmp_ne], rfl, rfl, rfl⟩)
set_option maxRecDepth 100000 in
theorem c_X11_byteAt (hM : x_Lay MR) {L : Nat} (hL : L ≤ 600) (hl : MI 124 7 = nI L) {i : Nat} (hi : i < 2 ^ 31) : Cf X yX11_byteAt cX11_byteAt 2 (some .int) 1 [.ref 124, .int (nI i)] n SH MI ML MR (some (.int (byR (MI 127) L i))) MI ML MR := by
  refine Ct_of (by decide) (Nat.le_of_ble_eq_true rfl) (fun G hG => ?_)
  refine r_iload_n 1 rfl dX11_byteAt_0 ?_
  refine r_aload_n 0 rfl dX11_byteAt_1 ?_
  refine r_geti dX11_byteAt_2 fl_X11_119 rfl ?_
  refine r_icmpge (tgt := 21) dX11_byteAt_5 (by decide) (fun zh5 => ?_) (fun zh5 => ?_)
  · refine r_iconst (v := (-1)) rfl dX11_byteAt_21 ?_
    exact r_iret hG dX11_byteAt_22 (⟨by first | (rw [nI_clamp (by omega)]; unfold byR; rw [if_pos hlt]) | (rw [hl] at zh5; have h9 := geL (k := L) (by omega) hi zh5; unfold byR; rw [if_neg (by omega)]), rfl, rfl, rfl⟩)
  · rw [hl] at zh5
    have hlt : i < L := ltL hi zh5
    refine r_aload_n 0 rfl dX11_byteAt_8 ?_
    refine r_getr dX11_byteAt_9 fl_X11_27 rfl (hM _ _ _ rfl) ?_
    refine r_iload_n 1 rfl dX11_byteAt_12 ?_
    refine r_bald dX11_byteAt_13 rfl (vp_in_nI (show i < 600 by omega) (by decide)) ?_
    refine r_sipush (v := 255) rfl dX11_byteAt_14 ?_
    refine r_iand dX11_byteAt_17 ?_
    refine r_goto (tgt := 22) dX11_byteAt_18 (by decide) ?_
    exact r_iret hG dX11_byteAt_22 (⟨by first | (rw [nI_clamp (by omega)]; unfold byR; rw [if_pos hlt]) | (rw [hl] at zh5; have h9 := geL (k := L) (by omega) hi zh5; unfold byR; rw [if_neg (by omega)]), rfl, rfl, rfl⟩)
end ref1
/-! the reference's reader: fault, at, spot, kind, number, word, rises, sinks -/
abbrev Rs : Type := Int32 × Nat × Nat × Int32 × Int32 × Int64 × Int32 × Int32
def laQ (D : Nat → Nat → Int32) (s : Rs) : Nat → Nat → Int32 := fun b j => if b = 124 then (if j = 12 then s.1 else if j = 10 then nI s.2.1 else if j = 8 then nI s.2.2.1 else if j = 9 then s.2.2.2.1 else if j = 11 then s.2.2.2.2.1 else if j = 21 then s.2.2.2.2.2.2.1 else if j = 22 then s.2.2.2.2.2.2.2 else D b j) else D b j
def lwQ (E : Nat → Nat → Int64) (s : Rs) : Nat → Nat → Int64 := u2 E 124 13 s.2.2.2.2.2.1
section laq
variable {D : Nat → Nat → Int32} {E : Nat → Nat → Int64} (s : Rs)
theorem laQ_b {b : Nat} (h : b ≠ 124) : laQ D s b = D b := funext fun j => if_neg h
theorem laQ_D {b j : Nat} {x : Int32} (h : b ≠ 124) : u2 (laQ D s) b j x = laQ (u2 D b j x) s := by
  funext b' j'
  simp only [u2, laQ]
  grind
theorem laQ_f (x : Int32) : u2 (laQ D s) 124 12 x = laQ D (x, s.2) := by
  funext b' j'
  simp only [u2, laQ]
  grind
theorem laQ_a (x : Nat) : u2 (laQ D s) 124 10 (nI x) = laQ D (s.1, x, s.2.2) := by
  funext b' j'
  simp only [u2, laQ]
  grind
theorem laQ_s (x : Nat) : u2 (laQ D s) 124 8 (nI x) = laQ D (s.1, s.2.1, x, s.2.2.2) := by
  funext b' j'
  simp only [u2, laQ]
  grind
theorem laQ_k (x : Int32) : u2 (laQ D s) 124 9 x = laQ D (s.1, s.2.1, s.2.2.1, x, s.2.2.2.2) := by
  funext b' j'
  simp only [u2, laQ]
  grind
theorem laQ_n (x : Int32) : u2 (laQ D s) 124 11 x = laQ D (s.1, s.2.1, s.2.2.1, s.2.2.2.1, x, s.2.2.2.2.2) := by
  funext b' j'
  simp only [u2, laQ]
  grind
theorem laQ_r (x : Int32) : u2 (laQ D s) 124 21 x = laQ D (s.1, s.2.1, s.2.2.1, s.2.2.2.1, s.2.2.2.2.1, s.2.2.2.2.2.1, x, s.2.2.2.2.2.2.2) := by
  funext b' j'
  simp only [u2, laQ]
  grind
theorem laQ_i (x : Int32) : u2 (laQ D s) 124 22 x = laQ D (s.1, s.2.1, s.2.2.1, s.2.2.2.1, s.2.2.2.2.1, s.2.2.2.2.2.1, s.2.2.2.2.2.2.1, x) := by
  funext b' j'
  simp only [u2, laQ]
  grind
theorem lwQ_w (x : Int64) : u2 (lwQ E s) 124 13 x = lwQ E (s.1, s.2.1, s.2.2.1, s.2.2.2.1, s.2.2.2.2.1, x, s.2.2.2.2.2.2) := by
  funext b' j'
  simp only [u2, lwQ]
  grind
theorem lwQ_v : lwQ E s 124 13 = s.2.2.2.2.2.1 := u2_eq _ _ _ _
end laq
def wrR (s : Rs) (k : Int32) : Rs := ((if s.1 = 0 then k else s.1), s.2.1, s.2.2.1, 0, s.2.2.2.2)
def skR (T : Nat → Int32) (L : Nat) : Nat → Nat → Nat
  | 0, p => p
  | k + 1, p => if byR T L p = 32 then skR T L k (p + 1) else p
def wdL (T : Nat → Int32) (L a : Nat) : Nat → Nat × Int64 → Nat × Int64
  | 0, q => q
  | k + 1, q => if inB (byR T L q.1) 97 122 = true then wdL T L a k (q.1 + 1, if q.1 - a < 5 then (q.2 <<< (8 : Int64)) ||| (byR T L q.1).toInt64 else q.2) else q
def nbL (T : Nat → Int32) (L a : Nat) : Nat → Nat × Int32 → Nat × Int32
  | 0, q => q
  | k + 1, q => if inB (byR T L q.1) 48 57 = true then nbL T L a k (q.1 + 1, if q.1 - a < 3 then 10 * q.2 + byR T L q.1 - 48 else q.2) else q
def isSg (c : Int32) : Bool := decide (c = 59 ∨ c = 47 ∨ c = 43 ∨ c = 45 ∨ c = 39)
/-- from the TOKEN's first byte on -/
def nxQ (T : Nat → Int32) (L p : Nat) (s : Rs) : Rs :=
  if byR T L p = -1 then (s.1, p, p, 1, s.2.2.2.2)
  else if inB (byR T L p) 97 122 = true then (s.1, p, (wdL T L p (L - p) (p, 0)).1, (if 5 < (wdL T L p (L - p) (p, 0)).1 - p then 0 else 2), s.2.2.2.2.1, (wdL T L p (L - p) (p, 0)).2, s.2.2.2.2.2.2)
  else if inB (byR T L p) 48 57 = true then (s.1, p, (nbL T L p (L - p) (p, 0)).1, (if 3 < (nbL T L p (L - p) (p, 0)).1 - p then 0 else 3), (nbL T L p (L - p) (p, 0)).2, s.2.2.2.2.2)
  else (s.1, p, (if isSg (byR T L p) = true then p + 1 else p), (if isSg (byR T L p) = true then 4 else 0), byR T L p, s.2.2.2.2.2)
def nxR (T : Nat → Int32) (L : Nat) (s : Rs) : Rs := if 0 < s.1 then s else nxQ T L (skR T L (L - s.2.2.1) s.2.2.1) s
theorem skR_le (T : Nat → Int32) (L : Nat) : ∀ k p, p + k ≤ L → p ≤ skR T L k p ∧ skR T L k p ≤ L
  | 0, p, h => ⟨Nat.le_refl _, h⟩
  | k + 1, p, h => by
    rw [skR]
    split
    · have := skR_le T L k (p + 1) (by omega); omega
    · omega
theorem byR_L {T : Nat → Int32} {L : Nat} : byR T L L = -1 := if_neg (Nat.lt_irrefl L)
theorem wdL_le (T : Nat → Int32) (L a : Nat) : ∀ k q, q.1 + k ≤ L → q.1 ≤ (wdL T L a k q).1 ∧ (wdL T L a k q).1 ≤ L
  | 0, q, h => ⟨Nat.le_refl _, h⟩
  | k + 1, q, h => by
    rw [wdL]
    split
    · have := wdL_le T L a k (q.1 + 1, if q.1 - a < 5 then (q.2 <<< (8 : Int64)) ||| (byR T L q.1).toInt64 else q.2) (by show q.1 + 1 + k ≤ L; omega)
      exact ⟨Nat.le_trans (Nat.le_succ _) this.1, this.2⟩
    · exact ⟨Nat.le_refl _, by omega⟩
theorem nbL_le (T : Nat → Int32) (L a : Nat) : ∀ k q, q.1 + k ≤ L → q.1 ≤ (nbL T L a k q).1 ∧ (nbL T L a k q).1 ≤ L
  | 0, q, h => ⟨Nat.le_refl _, h⟩
  | k + 1, q, h => by
    rw [nbL]
    split
    · have := nbL_le T L a k (q.1 + 1, if q.1 - a < 3 then 10 * q.2 + byR T L q.1 - 48 else q.2) (by show q.1 + 1 + k ≤ L; omega)
      exact ⟨Nat.le_trans (Nat.le_succ _) this.1, this.2⟩
    · exact ⟨Nat.le_refl _, by omega⟩
theorem nxQ_ok {T : Nat → Int32} {L p : Nat} {s : Rs} (h : p ≤ L) : (nxQ T L p s).2.2.1 ≤ L := by
  unfold nxQ
  split
  · exact h
  · rename_i hne
    have hlt : p < L := by
      rcases Nat.lt_or_ge p L with q | q
      · exact q
      · exact absurd (if_neg (by omega)) hne
    split
    · exact (wdL_le T L p (L - p) (p, 0) (by show p + (L - p) ≤ L; omega)).2
    · split
      · exact (nbL_le T L p (L - p) (p, 0) (by show p + (L - p) ≤ L; omega)).2
      · show (if isSg (byR T L p) = true then p + 1 else p) ≤ L
        split <;> omega
theorem nxR_ok {T : Nat → Int32} {L : Nat} {s : Rs} (h : s.2.2.1 ≤ L) : (nxR T L s).2.2.1 ≤ L := by
  unfold nxR
  split
  · exact h
  · exact nxQ_ok (skR_le T L (L - s.2.2.1) s.2.2.1 (by omega)).2
section ref2
variable {X : xG} {n : Nat} {D : Nat → Nat → Int32} {E : Nat → Nat → Int64} {MR : Nat → Nat → Option Nat} {s : Rs} {L : Nat}
theorem t_byR (hM : x_Lay MR) (hL : L ≤ 600) (hl : D 124 7 = nI L) {i : Nat} (hi : i < 2 ^ 31) : Cf X yX11_byteAt cX11_byteAt 2 (some .int) 1 [.ref 124, .int (nI i)] n SH (laQ D s) (lwQ E s) MR (some (.int (byR (D 127) L i))) (laQ D s) (lwQ E s) MR := by
  have h := c_X11_byteAt (X := X) (n := n) (MI := laQ D s) (ML := lwQ E s) (MR := MR) hM hL hl hi
  rw [laQ_b s (by decide)] at h
  exact h
set_option maxRecDepth 100000 in
theorem c_X11_wrong {k : Int32} : Cf X yX11_wrong cX11_wrong 2 none 1 [.ref 124, .int k] n SH (laQ D s) (lwQ E s) MR none (laQ D (wrR s k)) (lwQ E (wrR s k)) MR := by
  refine Ct_of (by decide) (Nat.le_of_ble_eq_true rfl) (fun G hG => ?_)
  have e : laQ D s 124 12 = s.1 := rfl
  refine r_aload_n 0 rfl dX11_wrong_0 ?_
  refine r_geti dX11_wrong_1 fl_X11_122 rfl ?_
  refine r_ifne (tgt := 12) dX11_wrong_4 (by decide) (fun zh4 => ?_) (fun zh4 => ?_)
  · refine r_aload_n 0 rfl dX11_wrong_12 ?_
    refine r_iconst (v := 0) rfl dX11_wrong_13 ?_
    refine r_puti dX11_wrong_14 fl_X11_135 rfl rfl rfl ?_
    exact r_vret hG dX11_wrong_17 (by rw [e] at zh4; first | (rw [laQ_f, laQ_k]; unfold wrR; rw [if_pos zh4]; exact ⟨rfl, rfl, rfl, rfl⟩) | (rw [laQ_k]; unfold wrR; rw [if_neg zh4]; exact ⟨rfl, rfl, rfl, rfl⟩))
  · refine r_aload_n 0 rfl dX11_wrong_7 ?_
    refine r_iload_n 1 rfl dX11_wrong_8 ?_
    refine r_puti dX11_wrong_9 fl_X11_122 rfl rfl rfl ?_
    refine r_aload_n 0 rfl dX11_wrong_12 ?_
    refine r_iconst (v := 0) rfl dX11_wrong_13 ?_
    refine r_puti dX11_wrong_14 fl_X11_135 rfl rfl rfl ?_
    exact r_vret hG dX11_wrong_17 (by rw [e] at zh4; first | (rw [laQ_f, laQ_k]; unfold wrR; rw [if_pos zh4]; exact ⟨rfl, rfl, rfl, rfl⟩) | (rw [laQ_k]; unfold wrR; rw [if_neg zh4]; exact ⟨rfl, rfl, rfl, rfl⟩))
set_option maxRecDepth 100000 in
theorem c_X11_isSign {c : Int32} : Cf X yX11_isSign cX11_isSign 2 (some .boolean) 1 [.ref 124, .int c] n SH (laQ D s) (lwQ E s) MR (some (.int (b2 (decide (s.2.2.2.1 = 4 ∧ s.2.2.2.2.1 = c))))) (laQ D s) (lwQ E s) MR := by
  refine Ct_of (by decide) (Nat.le_of_ble_eq_true rfl) (fun G hG => ?_)
  have e1 : laQ D s 124 9 = s.2.2.2.1 := rfl
  have e2 : laQ D s 124 11 = s.2.2.2.2.1 := rfl
  refine r_aload_n 0 rfl dX11_isSign_0 ?_
  refine r_geti dX11_isSign_1 fl_X11_135 rfl ?_
  refine r_iconst (v := 4) rfl dX11_isSign_4 ?_
  refine r_icmpne (tgt := 20) dX11_isSign_5 (by decide) (fun zh5 => ?_) (fun zh5 => ?_)
  · refine r_iconst (v := 0) rfl dX11_isSign_20 ?_
    exact r_zret hG dX11_isSign_21 (rfl) (⟨by simp_all [b2], rfl, rfl, rfl⟩)
  · refine r_aload_n 0 rfl dX11_isSign_8 ?_
    refine r_geti dX11_isSign_9 fl_X11_156 rfl ?_
    refine r_iload_n 1 rfl dX11_isSign_12 ?_
    refine r_icmpne (tgt := 20) dX11_isSign_13 (by decide) (fun zh13 => ?_) (fun zh13 => ?_)
    · refine r_iconst (v := 0) rfl dX11_isSign_20 ?_
      exact r_zret hG dX11_isSign_21 (rfl) (⟨by simp_all [b2], rfl, rfl, rfl⟩)
    · refine r_iconst (v := 1) rfl dX11_isSign_16 ?_
      refine r_goto (tgt := 21) dX11_isSign_17 (by decide) ?_
      exact r_zret hG dX11_isSign_21 (rfl) (⟨by simp_all [b2], rfl, rfl, rfl⟩)
set_option maxRecDepth 100000 in
theorem c_X11_nextSign {c : Int32} : Cf X yX11_nextSign cX11_nextSign 3 none 1 [.ref 124, .int c] n SH (laQ D s) (lwQ E s) MR none (laQ D (s.1, s.2.1, (if isSg c = true then s.2.2.1 + 1 else s.2.2.1), (if isSg c = true then 4 else 0), c, s.2.2.2.2.2)) (lwQ E s) MR := by
  refine Ct_of (by decide) (Nat.le_of_ble_eq_true rfl) (fun G hG => ?_)
  have hs : ∀ s : Rs, laQ D s 124 8 + 1 = nI (s.2.2.1 + 1) := fun s => nI_1 s.2.2.1
  have j35 : ∀ t, t = b2 (isSg c) → RW X G RX11 cX11_nextSign 3 (x_rm 1 0 0) n SH (laQ D s) (lwQ E s) MR 0 0 35 [(0, .ref 124), (1, .int c)] [.int t] := by
    intro t ht
    refine r_istore_n (ls2 := [(2, .int t), (0, .ref 124), (1, .int c)]) dX11_nextSign_35 (by decide) rfl ?_
    refine r_aload_n 1 rfl dX11_nextSign_36 ?_
    refine r_iload_n 0 rfl dX11_nextSign_37 ?_
    refine r_ifeq (tgt := 45) dX11_nextSign_38 (by decide) (fun zh38 => ?_) (fun zh38 => ?_)
    · refine r_iconst (v := 0) rfl dX11_nextSign_45 ?_
      refine r_puti dX11_nextSign_46 fl_X11_135 rfl rfl rfl ?_
      refine r_aload_n 1 rfl dX11_nextSign_49 ?_
      refine r_iload_n 2 rfl dX11_nextSign_50 ?_
      refine r_puti dX11_nextSign_51 fl_X11_156 rfl rfl rfl ?_
      refine r_iload_n 0 rfl dX11_nextSign_54 ?_
      refine r_ifeq (tgt := 68) dX11_nextSign_55 (by decide) (fun zh55 => ?_) (fun zh55 => ?_)
      · exact r_vret hG dX11_nextSign_68 (by
            rw [ht, b2z] at zh38 zh55
            first
              | exact absurd zh55 zh38
              | exact absurd zh38 zh55
              | (have z : ¬ isSg c = true := by simpa using zh38
                 rw [if_neg z, if_neg z, laQ_k, laQ_n]
                 exact ⟨rfl, rfl, rfl, rfl⟩)
              | (have z : isSg c = true := by simpa using zh38
                 rw [if_pos z, if_pos z, laQ_k, laQ_n, hs, laQ_s]
                 exact ⟨rfl, rfl, rfl, rfl⟩))
      · refine r_aload_n 1 rfl dX11_nextSign_58 ?_
        refine r_dup rfl dX11_nextSign_59 ?_
        refine r_geti dX11_nextSign_60 fl_X11_125 rfl ?_
        refine r_iconst (v := 1) rfl dX11_nextSign_63 ?_
        refine r_iadd dX11_nextSign_64 ?_
        refine r_puti dX11_nextSign_65 fl_X11_125 rfl rfl rfl ?_
        exact r_vret hG dX11_nextSign_68 (by
            rw [ht, b2z] at zh38 zh55
            first
              | exact absurd zh55 zh38
              | exact absurd zh38 zh55
              | (have z : ¬ isSg c = true := by simpa using zh38
                 rw [if_neg z, if_neg z, laQ_k, laQ_n]
                 exact ⟨rfl, rfl, rfl, rfl⟩)
              | (have z : isSg c = true := by simpa using zh38
                 rw [if_pos z, if_pos z, laQ_k, laQ_n, hs, laQ_s]
                 exact ⟨rfl, rfl, rfl, rfl⟩))
    · refine r_iconst (v := 4) rfl dX11_nextSign_41 ?_
      refine r_goto (tgt := 46) dX11_nextSign_42 (by decide) ?_
      refine r_puti dX11_nextSign_46 fl_X11_135 rfl rfl rfl ?_
      refine r_aload_n 1 rfl dX11_nextSign_49 ?_
      refine r_iload_n 2 rfl dX11_nextSign_50 ?_
      refine r_puti dX11_nextSign_51 fl_X11_156 rfl rfl rfl ?_
      refine r_iload_n 0 rfl dX11_nextSign_54 ?_
      refine r_ifeq (tgt := 68) dX11_nextSign_55 (by decide) (fun zh55 => ?_) (fun zh55 => ?_)
      · exact r_vret hG dX11_nextSign_68 (by
            rw [ht, b2z] at zh38 zh55
            first
              | exact absurd zh55 zh38
              | exact absurd zh38 zh55
              | (have z : ¬ isSg c = true := by simpa using zh38
                 rw [if_neg z, if_neg z, laQ_k, laQ_n]
                 exact ⟨rfl, rfl, rfl, rfl⟩)
              | (have z : isSg c = true := by simpa using zh38
                 rw [if_pos z, if_pos z, laQ_k, laQ_n, hs, laQ_s]
                 exact ⟨rfl, rfl, rfl, rfl⟩))
      · refine r_aload_n 1 rfl dX11_nextSign_58 ?_
        refine r_dup rfl dX11_nextSign_59 ?_
        refine r_geti dX11_nextSign_60 fl_X11_125 rfl ?_
        refine r_iconst (v := 1) rfl dX11_nextSign_63 ?_
        refine r_iadd dX11_nextSign_64 ?_
        refine r_puti dX11_nextSign_65 fl_X11_125 rfl rfl rfl ?_
        exact r_vret hG dX11_nextSign_68 (by
            rw [ht, b2z] at zh38 zh55
            first
              | exact absurd zh55 zh38
              | exact absurd zh38 zh55
              | (have z : ¬ isSg c = true := by simpa using zh38
                 rw [if_neg z, if_neg z, laQ_k, laQ_n]
                 exact ⟨rfl, rfl, rfl, rfl⟩)
              | (have z : isSg c = true := by simpa using zh38
                 rw [if_pos z, if_pos z, laQ_k, laQ_n, hs, laQ_s]
                 exact ⟨rfl, rfl, rfl, rfl⟩))
  refine r_iload_n 1 rfl dX11_nextSign_0 ?_
  refine r_bipush (v := 59) rfl dX11_nextSign_1 ?_
  refine r_icmpeq (tgt := 30) dX11_nextSign_3 (by decide) (fun zh3 => ?_) (fun zh3 => ?_)
  · refine r_iconst (v := 1) rfl dX11_nextSign_30 ?_
    refine r_goto (tgt := 35) dX11_nextSign_31 (by decide) ?_
    exact j35 _ (by unfold isSg; simp_all [b2])
  · refine r_iload_n 1 rfl dX11_nextSign_6 ?_
    refine r_bipush (v := 47) rfl dX11_nextSign_7 ?_
    refine r_icmpeq (tgt := 30) dX11_nextSign_9 (by decide) (fun zh9 => ?_) (fun zh9 => ?_)
    · refine r_iconst (v := 1) rfl dX11_nextSign_30 ?_
      refine r_goto (tgt := 35) dX11_nextSign_31 (by decide) ?_
      exact j35 _ (by unfold isSg; simp_all [b2])
    · refine r_iload_n 1 rfl dX11_nextSign_12 ?_
      refine r_bipush (v := 43) rfl dX11_nextSign_13 ?_
      refine r_icmpeq (tgt := 30) dX11_nextSign_15 (by decide) (fun zh15 => ?_) (fun zh15 => ?_)
      · refine r_iconst (v := 1) rfl dX11_nextSign_30 ?_
        refine r_goto (tgt := 35) dX11_nextSign_31 (by decide) ?_
        exact j35 _ (by unfold isSg; simp_all [b2])
      · refine r_iload_n 1 rfl dX11_nextSign_18 ?_
        refine r_bipush (v := 45) rfl dX11_nextSign_19 ?_
        refine r_icmpeq (tgt := 30) dX11_nextSign_21 (by decide) (fun zh21 => ?_) (fun zh21 => ?_)
        · refine r_iconst (v := 1) rfl dX11_nextSign_30 ?_
          refine r_goto (tgt := 35) dX11_nextSign_31 (by decide) ?_
          exact j35 _ (by unfold isSg; simp_all [b2])
        · refine r_iload_n 1 rfl dX11_nextSign_24 ?_
          refine r_bipush (v := 39) rfl dX11_nextSign_25 ?_
          refine r_icmpne (tgt := 34) dX11_nextSign_27 (by decide) (fun zh27 => ?_) (fun zh27 => ?_)
          · refine r_iconst (v := 0) rfl dX11_nextSign_34 ?_
            exact j35 _ (by unfold isSg; simp_all [b2])
          · refine r_iconst (v := 1) rfl dX11_nextSign_30 ?_
            refine r_goto (tgt := 35) dX11_nextSign_31 (by decide) ?_
            exact j35 _ (by unfold isSg; simp_all [b2])
set_option maxRecDepth 100000 in
theorem c_X11_nextWord (hM : x_Lay MR) (hL : L ≤ 600) (hl : D 124 7 = nI L) (ha : s.2.1 = s.2.2.1) (ok : s.2.2.1 ≤ L) : Cf X yX11_nextWord cX11_nextWord 1 none 2 [.ref 124] n SH (laQ D s) (lwQ E s) MR none (laQ D (s.1, s.2.1, (wdL (D 127) L s.2.1 (L - s.2.1) (s.2.1, 0)).1, (if 5 < (wdL (D 127) L s.2.1 (L - s.2.1) (s.2.1, 0)).1 - s.2.1 then 0 else 2), s.2.2.2.2.1, (wdL (D 127) L s.2.1 (L - s.2.1) (s.2.1, 0)).2, s.2.2.2.2.2.2)) (lwQ E (s.1, s.2.1, (wdL (D 127) L s.2.1 (L - s.2.1) (s.2.1, 0)).1, (if 5 < (wdL (D 127) L s.2.1 (L - s.2.1) (s.2.1, 0)).1 - s.2.1 then 0 else 2), s.2.2.2.2.1, (wdL (D 127) L s.2.1 (L - s.2.1) (s.2.1, 0)).2, s.2.2.2.2.2.2)) MR := by
  refine Ct_of (by decide) (Nat.le_of_ble_eq_true rfl) (fun G hG => ?_)
  obtain ⟨z, hz⟩ : ∃ z, z = wdL (D 127) L s.2.1 (L - s.2.1) (s.2.1, 0) := ⟨_, rfl⟩
  rw [← hz] at hG
  have loop : ∀ p, p ≤ L → s.2.1 ≤ p → ∀ w, wdL (D 127) L s.2.1 (L - p) (p, w) = z → RW X G RX11 cX11_nextWord 1 (x_rm 2 0 0) n SH (laQ D (s.1, s.2.1, p, s.2.2.2.1, s.2.2.2.2.1, w, s.2.2.2.2.2.2)) (lwQ E (s.1, s.2.1, p, s.2.2.2.1, s.2.2.2.2.1, w, s.2.2.2.2.2.2)) MR 0 0 5 [(0, .ref 124)] [] := by
    refine bwd (fun p hp ih hap w hw => ?_)
    have e8 : ∀ s : Rs, laQ D s 124 8 = nI s.2.2.1 := fun _ => rfl
    have e10 : ∀ s : Rs, laQ D s 124 10 = nI s.2.1 := fun _ => rfl
    have hpL : inB (byR (D 127) L p) 97 122 = true → p < L := fun q => by
      rcases Nat.lt_or_ge p L with h | h
      · exact h
      · rw [show byR (D 127) L p = -1 from if_neg (by omega)] at q; exact absurd q (by decide)
    have hend : inB (byR (D 127) L p) 97 122 = false → z = (p, w) := fun q => by
      rw [← hw]
      cases hk : L - p with
      | zero => rfl
      | succ k => rw [wdL, if_neg (by rw [q]; decide)]
    have hstp : inB (byR (D 127) L p) 97 122 = true → wdL (D 127) L s.2.1 (L - (p + 1)) (p + 1, if p - s.2.1 < 5 then (w <<< (8 : Int64)) ||| (byR (D 127) L p).toInt64 else w) = z := fun q => by
      have := hpL q
      rw [← hw, show L - p = (L - (p + 1)) + 1 by omega, wdL, if_pos q]
    have hsub : nI p - nI s.2.1 = nI (p - s.2.1) := pk_sub hap
    refine r_aload_n 0 rfl dX11_nextWord_5 ?_
    refine r_aload_n 0 rfl dX11_nextWord_6 ?_
    refine r_geti dX11_nextWord_7 fl_X11_125 rfl ?_
    refine r_Vf [.int _] dX11_nextWord_10 lk_X11_128 mb_X11_byteAt in_X11_byteAt se_X11_byteAt rfl (t_byR hM hL hl (show p < 2 ^ 31 by omega)) rfl rfl rfl (Nat.le_of_ble_eq_true rfl) (rfl) ?_
    refine r_bipush (v := 97) rfl dX11_nextWord_13 ?_
    refine r_bipush (v := 122) rfl dX11_nextWord_15 ?_
    refine r_Sf [.int _, .int _, .int _] dX11_nextWord_17 lk_X11_138 mb_X11_in sc_X11_in rfl (c_X11_in) rfl (Nat.le_of_ble_eq_true rfl) (rfl) ?_
    refine r_ifeq (tgt := 70) dX11_nextWord_20 (by decide) (fun zh20 => ?_) (fun zh20 => ?_)
    · have hin : inB (byR (D 127) L p) 97 122 = false := by simpa [b2z] using zh20
      obtain rfl := hend hin
      refine r_aload_n 0 rfl dX11_nextWord_70 ?_
      refine r_aload_n 0 rfl dX11_nextWord_71 ?_
      refine r_geti dX11_nextWord_72 fl_X11_125 rfl ?_
      refine r_aload_n 0 rfl dX11_nextWord_75 ?_
      refine r_geti dX11_nextWord_76 fl_X11_132 rfl ?_
      refine r_isub dX11_nextWord_79 ?_
      refine r_iconst (v := 5) rfl dX11_nextWord_80 ?_
      refine r_icmple (tgt := 88) dX11_nextWord_81 (by decide) (fun zh81 => ?_) (fun zh81 => ?_)
      · refine r_iconst (v := 2) rfl dX11_nextWord_88 ?_
        refine r_puti dX11_nextWord_89 fl_X11_135 rfl rfl rfl ?_
        exact r_vret hG dX11_nextWord_92 (by rw [e8, e10, hsub] at zh81; first | (have h5 : ¬ 5 < p - s.2.1 := fun q => absurd (nI_lt q (by omega)) (Int32.not_lt.mpr zh81); rw [laQ_k, if_neg h5]; exact ⟨rfl, rfl, rfl, rfl⟩) | (have h5 : 5 < p - s.2.1 := (nI_ltI (a := 5) (by decide) (by omega)).mp (Int32.not_le.mp zh81); rw [laQ_k, if_pos h5]; exact ⟨rfl, rfl, rfl, rfl⟩))
      · refine r_iconst (v := 0) rfl dX11_nextWord_84 ?_
        refine r_goto (tgt := 89) dX11_nextWord_85 (by decide) ?_
        refine r_puti dX11_nextWord_89 fl_X11_135 rfl rfl rfl ?_
        exact r_vret hG dX11_nextWord_92 (by rw [e8, e10, hsub] at zh81; first | (have h5 : ¬ 5 < p - s.2.1 := fun q => absurd (nI_lt q (by omega)) (Int32.not_lt.mpr zh81); rw [laQ_k, if_neg h5]; exact ⟨rfl, rfl, rfl, rfl⟩) | (have h5 : 5 < p - s.2.1 := (nI_ltI (a := 5) (by decide) (by omega)).mp (Int32.not_le.mp zh81); rw [laQ_k, if_pos h5]; exact ⟨rfl, rfl, rfl, rfl⟩))
    · have hin : inB (byR (D 127) L p) 97 122 = true := by simpa [b2z] using zh20
      have hplt := hpL hin
      have hst := hstp hin
      refine r_aload_n 0 rfl dX11_nextWord_23 ?_
      refine r_geti dX11_nextWord_24 fl_X11_125 rfl ?_
      refine r_aload_n 0 rfl dX11_nextWord_27 ?_
      refine r_geti dX11_nextWord_28 fl_X11_132 rfl ?_
      refine r_isub dX11_nextWord_31 ?_
      refine r_iconst (v := 5) rfl dX11_nextWord_32 ?_
      refine r_icmpge (tgt := 57) dX11_nextWord_33 (by decide) (fun zh33 => ?_) (fun zh33 => ?_)
      · refine r_aload_n 0 rfl dX11_nextWord_57 ?_
        refine r_dup rfl dX11_nextWord_58 ?_
        refine r_geti dX11_nextWord_59 fl_X11_125 rfl ?_
        refine r_iconst (v := 1) rfl dX11_nextWord_62 ?_
        refine r_iadd dX11_nextWord_63 ?_
        refine r_puti dX11_nextWord_64 fl_X11_125 rfl rfl rfl ?_
        refine r_goto (tgt := 5) dX11_nextWord_67 (by decide) ?_
        first
          | (rw [lwQ_v, lwQ_w, e8, nI_1, laQ_s]; exact ih hplt (by omega) _ hst)
          | (rw [e8, e10, hsub] at zh33
             have h5 : ¬ p - s.2.1 < 5 := fun q => absurd (geL (k := 5) (by decide) (by omega) zh33) (by omega)
             rw [if_neg h5] at hst
             rw [e8, nI_1, laQ_s]; exact ih hplt (by omega) _ hst)
      · rw [e8, e10, hsub] at zh33
        have h5 : p - s.2.1 < 5 := ltL (by omega) zh33
        rw [if_pos h5] at hst
        refine r_aload_n 0 rfl dX11_nextWord_36 ?_
        refine r_aload_n 0 rfl dX11_nextWord_37 ?_
        refine r_getl dX11_nextWord_38 fl_X11_152 rfl ?_
        refine r_bipush (v := 8) rfl dX11_nextWord_41 ?_
        refine r_lshl dX11_nextWord_43 ?_
        refine r_aload_n 0 rfl dX11_nextWord_44 ?_
        refine r_aload_n 0 rfl dX11_nextWord_45 ?_
        refine r_geti dX11_nextWord_46 fl_X11_125 rfl ?_
        refine r_Vf [.int _] dX11_nextWord_49 lk_X11_128 mb_X11_byteAt in_X11_byteAt se_X11_byteAt rfl (t_byR hM hL hl (show p < 2 ^ 31 by omega)) rfl rfl rfl (Nat.le_of_ble_eq_true rfl) (rfl) ?_
        refine r_i2l dX11_nextWord_52 ?_
        refine r_lor dX11_nextWord_53 ?_
        refine r_putl dX11_nextWord_54 fl_X11_152 rfl rfl rfl ?_
        refine r_aload_n 0 rfl dX11_nextWord_57 ?_
        refine r_dup rfl dX11_nextWord_58 ?_
        refine r_geti dX11_nextWord_59 fl_X11_125 rfl ?_
        refine r_iconst (v := 1) rfl dX11_nextWord_62 ?_
        refine r_iadd dX11_nextWord_63 ?_
        refine r_puti dX11_nextWord_64 fl_X11_125 rfl rfl rfl ?_
        refine r_goto (tgt := 5) dX11_nextWord_67 (by decide) ?_
        first
          | (rw [lwQ_v, lwQ_w, e8, nI_1, laQ_s]; exact ih hplt (by omega) _ hst)
          | (rw [e8, e10, hsub] at zh33
             have h5 : ¬ p - s.2.1 < 5 := fun q => absurd (geL (k := 5) (by decide) (by omega) zh33) (by omega)
             rw [if_neg h5] at hst
             rw [e8, nI_1, laQ_s]; exact ih hplt (by omega) _ hst)
  refine r_aload_n 0 rfl dX11_nextWord_0 ?_
  refine r_lconst (v := 0) rfl dX11_nextWord_1 ?_
  refine r_putl dX11_nextWord_2 fl_X11_152 rfl rfl rfl ?_
  rw [lwQ_w]
  have q := loop s.2.1 (by omega) (Nat.le_refl _) 0 hz.symm
  rw [show ((s.1, s.2.1, s.2.1, s.2.2.2.1, s.2.2.2.2.1, (0 : Int64), s.2.2.2.2.2.2) : Rs) = (s.1, s.2.1, s.2.2.1, s.2.2.2.1, s.2.2.2.2.1, 0, s.2.2.2.2.2.2) by rw [ha]] at q
  exact q
set_option maxRecDepth 100000 in
theorem c_X11_nextWhole (hM : x_Lay MR) (hL : L ≤ 600) (hl : D 124 7 = nI L) (ha : s.2.1 = s.2.2.1) (ok : s.2.2.1 ≤ L) : Cf X yX11_nextWhole cX11_nextWhole 1 none 2 [.ref 124] n SH (laQ D s) (lwQ E s) MR none (laQ D (s.1, s.2.1, (nbL (D 127) L s.2.1 (L - s.2.1) (s.2.1, 0)).1, (if 3 < (nbL (D 127) L s.2.1 (L - s.2.1) (s.2.1, 0)).1 - s.2.1 then 0 else 3), (nbL (D 127) L s.2.1 (L - s.2.1) (s.2.1, 0)).2, s.2.2.2.2.2)) (lwQ E s) MR := by
  refine Ct_of (by decide) (Nat.le_of_ble_eq_true rfl) (fun G hG => ?_)
  obtain ⟨z, hz⟩ : ∃ z, z = nbL (D 127) L s.2.1 (L - s.2.1) (s.2.1, 0) := ⟨_, rfl⟩
  rw [← hz] at hG
  have loop : ∀ p, p ≤ L → s.2.1 ≤ p → ∀ w, nbL (D 127) L s.2.1 (L - p) (p, w) = z → RW X G RX11 cX11_nextWhole 1 (x_rm 2 0 0) n SH (laQ D (s.1, s.2.1, p, s.2.2.2.1, w, s.2.2.2.2.2)) (lwQ E s) MR 0 0 5 [(0, .ref 124)] [] := by
    refine bwd (fun p hp ih hap w hw => ?_)
    have e8 : ∀ s : Rs, laQ D s 124 8 = nI s.2.2.1 := fun _ => rfl
    have e10 : ∀ s : Rs, laQ D s 124 10 = nI s.2.1 := fun _ => rfl
    have e11 : ∀ s : Rs, laQ D s 124 11 = s.2.2.2.2.1 := fun _ => rfl
    have hpL : inB (byR (D 127) L p) 48 57 = true → p < L := fun q => by
      rcases Nat.lt_or_ge p L with h | h
      · exact h
      · rw [show byR (D 127) L p = -1 from if_neg (by omega)] at q; exact absurd q (by decide)
    have hend : inB (byR (D 127) L p) 48 57 = false → z = (p, w) := fun q => by
      rw [← hw]
      cases hk : L - p with
      | zero => rfl
      | succ k => rw [nbL, if_neg (by rw [q]; decide)]
    have hstp : inB (byR (D 127) L p) 48 57 = true → nbL (D 127) L s.2.1 (L - (p + 1)) (p + 1, if p - s.2.1 < 3 then 10 * w + byR (D 127) L p - 48 else w) = z := fun q => by
      have := hpL q
      rw [← hw, show L - p = (L - (p + 1)) + 1 by omega, nbL, if_pos q]
    have hsub : nI p - nI s.2.1 = nI (p - s.2.1) := pk_sub hap
    have ht : ∀ {i : Nat}, i < 2 ^ 31 → Cf X yX11_byteAt cX11_byteAt 2 (some .int) 1 [.ref 124, .int (nI i)] n SH (laQ D (s.1, s.2.1, p, s.2.2.2.1, w, s.2.2.2.2.2)) (lwQ E s) MR (some (.int (byR (D 127) L i))) (laQ D (s.1, s.2.1, p, s.2.2.2.1, w, s.2.2.2.2.2)) (lwQ E s) MR := fun hi => t_byR (s := (s.1, s.2.1, p, s.2.2.2.1, w, s.2.2.2.2.2)) hM hL hl hi
    refine r_aload_n 0 rfl dX11_nextWhole_5 ?_
    refine r_aload_n 0 rfl dX11_nextWhole_6 ?_
    refine r_geti dX11_nextWhole_7 fl_X11_125 rfl ?_
    refine r_Vf [.int _] dX11_nextWhole_10 lk_X11_128 mb_X11_byteAt in_X11_byteAt se_X11_byteAt rfl (ht (show p < 2 ^ 31 by omega)) rfl rfl rfl (Nat.le_of_ble_eq_true rfl) (rfl) ?_
    refine r_bipush (v := 48) rfl dX11_nextWhole_13 ?_
    refine r_bipush (v := 57) rfl dX11_nextWhole_15 ?_
    refine r_Sf [.int _, .int _, .int _] dX11_nextWhole_17 lk_X11_138 mb_X11_in sc_X11_in rfl (c_X11_in) rfl (Nat.le_of_ble_eq_true rfl) (rfl) ?_
    refine r_ifeq (tgt := 72) dX11_nextWhole_20 (by decide) (fun zh20 => ?_) (fun zh20 => ?_)
    · have hin : inB (byR (D 127) L p) 48 57 = false := by simpa [b2z] using zh20
      obtain rfl := hend hin
      refine r_aload_n 0 rfl dX11_nextWhole_72 ?_
      refine r_aload_n 0 rfl dX11_nextWhole_73 ?_
      refine r_geti dX11_nextWhole_74 fl_X11_125 rfl ?_
      refine r_aload_n 0 rfl dX11_nextWhole_77 ?_
      refine r_geti dX11_nextWhole_78 fl_X11_132 rfl ?_
      refine r_isub dX11_nextWhole_81 ?_
      refine r_iconst (v := 3) rfl dX11_nextWhole_82 ?_
      refine r_icmple (tgt := 90) dX11_nextWhole_83 (by decide) (fun zh83 => ?_) (fun zh83 => ?_)
      · refine r_iconst (v := 3) rfl dX11_nextWhole_90 ?_
        refine r_puti dX11_nextWhole_91 fl_X11_135 rfl rfl rfl ?_
        exact r_vret hG dX11_nextWhole_94 (by rw [e8, e10, hsub] at zh83; first | (have h5 : ¬ 3 < p - s.2.1 := fun q => absurd (nI_lt q (by omega)) (Int32.not_lt.mpr zh83); rw [laQ_k, if_neg h5]; exact ⟨rfl, rfl, rfl, rfl⟩) | (have h5 : 3 < p - s.2.1 := (nI_ltI (a := 3) (by decide) (by omega)).mp (Int32.not_le.mp zh83); rw [laQ_k, if_pos h5]; exact ⟨rfl, rfl, rfl, rfl⟩))
      · refine r_iconst (v := 0) rfl dX11_nextWhole_86 ?_
        refine r_goto (tgt := 91) dX11_nextWhole_87 (by decide) ?_
        refine r_puti dX11_nextWhole_91 fl_X11_135 rfl rfl rfl ?_
        exact r_vret hG dX11_nextWhole_94 (by rw [e8, e10, hsub] at zh83; first | (have h5 : ¬ 3 < p - s.2.1 := fun q => absurd (nI_lt q (by omega)) (Int32.not_lt.mpr zh83); rw [laQ_k, if_neg h5]; exact ⟨rfl, rfl, rfl, rfl⟩) | (have h5 : 3 < p - s.2.1 := (nI_ltI (a := 3) (by decide) (by omega)).mp (Int32.not_le.mp zh83); rw [laQ_k, if_pos h5]; exact ⟨rfl, rfl, rfl, rfl⟩))
    · have hin : inB (byR (D 127) L p) 48 57 = true := by simpa [b2z] using zh20
      have hplt := hpL hin
      have hst := hstp hin
      refine r_aload_n 0 rfl dX11_nextWhole_23 ?_
      refine r_geti dX11_nextWhole_24 fl_X11_125 rfl ?_
      refine r_aload_n 0 rfl dX11_nextWhole_27 ?_
      refine r_geti dX11_nextWhole_28 fl_X11_132 rfl ?_
      refine r_isub dX11_nextWhole_31 ?_
      refine r_iconst (v := 3) rfl dX11_nextWhole_32 ?_
      refine r_icmpge (tgt := 59) dX11_nextWhole_33 (by decide) (fun zh33 => ?_) (fun zh33 => ?_)
      · refine r_aload_n 0 rfl dX11_nextWhole_59 ?_
        refine r_dup rfl dX11_nextWhole_60 ?_
        refine r_geti dX11_nextWhole_61 fl_X11_125 rfl ?_
        refine r_iconst (v := 1) rfl dX11_nextWhole_64 ?_
        refine r_iadd dX11_nextWhole_65 ?_
        refine r_puti dX11_nextWhole_66 fl_X11_125 rfl rfl rfl ?_
        refine r_goto (tgt := 5) dX11_nextWhole_69 (by decide) ?_
        first
          | (rw [laQ_n, e8, e11, nI_1, laQ_s]; exact ih hplt (by omega) _ hst)
          | (rw [e8, e10, hsub] at zh33
             have h5 : ¬ p - s.2.1 < 3 := fun q => absurd (geL (k := 3) (by decide) (by omega) zh33) (by omega)
             rw [if_neg h5] at hst
             rw [e8, nI_1, laQ_s]; exact ih hplt (by omega) _ hst)
      · rw [e8, e10, hsub] at zh33
        have h5 : p - s.2.1 < 3 := ltL (by omega) zh33
        rw [if_pos h5] at hst
        refine r_aload_n 0 rfl dX11_nextWhole_36 ?_
        refine r_bipush (v := 10) rfl dX11_nextWhole_37 ?_
        refine r_aload_n 0 rfl dX11_nextWhole_39 ?_
        refine r_geti dX11_nextWhole_40 fl_X11_156 rfl ?_
        refine r_imul dX11_nextWhole_43 ?_
        refine r_aload_n 0 rfl dX11_nextWhole_44 ?_
        refine r_aload_n 0 rfl dX11_nextWhole_45 ?_
        refine r_geti dX11_nextWhole_46 fl_X11_125 rfl ?_
        refine r_Vf [.int _] dX11_nextWhole_49 lk_X11_128 mb_X11_byteAt in_X11_byteAt se_X11_byteAt rfl (ht (show p < 2 ^ 31 by omega)) rfl rfl rfl (Nat.le_of_ble_eq_true rfl) (rfl) ?_
        refine r_iadd dX11_nextWhole_52 ?_
        refine r_bipush (v := 48) rfl dX11_nextWhole_53 ?_
        refine r_isub dX11_nextWhole_55 ?_
        refine r_puti dX11_nextWhole_56 fl_X11_156 rfl rfl rfl ?_
        refine r_aload_n 0 rfl dX11_nextWhole_59 ?_
        refine r_dup rfl dX11_nextWhole_60 ?_
        refine r_geti dX11_nextWhole_61 fl_X11_125 rfl ?_
        refine r_iconst (v := 1) rfl dX11_nextWhole_64 ?_
        refine r_iadd dX11_nextWhole_65 ?_
        refine r_puti dX11_nextWhole_66 fl_X11_125 rfl rfl rfl ?_
        refine r_goto (tgt := 5) dX11_nextWhole_69 (by decide) ?_
        first
          | (rw [laQ_n, e8, e11, nI_1, laQ_s]; exact ih hplt (by omega) _ hst)
          | (rw [e8, e10, hsub] at zh33
             have h5 : ¬ p - s.2.1 < 3 := fun q => absurd (geL (k := 3) (by decide) (by omega) zh33) (by omega)
             rw [if_neg h5] at hst
             rw [e8, nI_1, laQ_s]; exact ih hplt (by omega) _ hst)
  refine r_aload_n 0 rfl dX11_nextWhole_0 ?_
  refine r_iconst (v := 0) rfl dX11_nextWhole_1 ?_
  refine r_puti dX11_nextWhole_2 fl_X11_156 rfl rfl rfl ?_
  rw [laQ_n]
  have q := loop s.2.1 (by omega) (Nat.le_refl _) 0 hz.symm
  rw [show ((s.1, s.2.1, s.2.1, s.2.2.2.1, (0 : Int32), s.2.2.2.2.2) : Rs) = (s.1, s.2.1, s.2.2.1, s.2.2.2.1, 0, s.2.2.2.2.2) by rw [ha]] at q
  exact q
set_option maxRecDepth 100000 in
theorem c_X11_next (hM : x_Lay MR) (hL : L ≤ 600) (hl : D 124 7 = nI L) (ok : s.2.2.1 ≤ L) : Cf X yX11_next cX11_next 2 none 3 [.ref 124] n SH (laQ D s) (lwQ E s) MR none (laQ D (nxR (D 127) L s)) (lwQ E (nxR (D 127) L s)) MR := by
  refine Ct_of (by decide) (Nat.le_of_ble_eq_true rfl) (fun G hG => ?_)
  have e8 : ∀ s : Rs, laQ D s 124 8 = nI s.2.2.1 := fun _ => rfl
  have e12 : laQ D s 124 12 = s.1 := rfl
  have loop : ¬ 0 < s.1 → ∀ p, p ≤ L → skR (D 127) L (L - p) p = skR (D 127) L (L - s.2.2.1) s.2.2.1 → RW X G RX11 cX11_next 2 (x_rm 3 0 0) n SH (laQ D (s.1, s.2.1, p, s.2.2.2)) (lwQ E s) MR 0 0 8 [(0, .ref 124)] [] := by
    intro h0
    refine bwd (fun p hp ih hsk => ?_)
    have hpL : byR (D 127) L p = 32 → p < L := fun q => by
      rcases Nat.lt_or_ge p L with h | h
      · exact h
      · rw [show byR (D 127) L p = -1 from if_neg (by omega)] at q; exact absurd q (by decide)
    have hend : ¬ byR (D 127) L p = 32 → skR (D 127) L (L - s.2.2.1) s.2.2.1 = p := fun q => by
      rw [← hsk]
      cases hk : L - p with
      | zero => rfl
      | succ k => rw [skR, if_neg q]
    have hstp : byR (D 127) L p = 32 → skR (D 127) L (L - (p + 1)) (p + 1) = skR (D 127) L (L - s.2.2.1) s.2.2.1 := fun q => by
      have := hpL q
      rw [← hsk, show L - p = (L - (p + 1)) + 1 by omega]
      conv => rhs; rw [skR, if_pos q]
    have ht : ∀ (s2 : Rs), lwQ E s2 = lwQ E s → ∀ {i : Nat}, i < 2 ^ 31 → Cf X yX11_byteAt cX11_byteAt 2 (some .int) 1 [.ref 124, .int (nI i)] n SH (laQ D s2) (lwQ E s) MR (some (.int (byR (D 127) L i))) (laQ D s2) (lwQ E s) MR := fun s2 h2 i hi => by
      have := t_byR (X := X) (n := n) (E := E) (s := s2) hM hL hl hi
      rw [h2] at this
      exact this
    have hfin : skR (D 127) L (L - s.2.2.1) s.2.2.1 = p → ∀ s2 : Rs, s2 = nxQ (D 127) L p s → nxR (D 127) L s = s2 := fun q s2 h2 => by
      unfold nxR
      rw [if_neg h0, q, h2]
    refine r_aload_n 0 rfl dX11_next_8 ?_
    refine r_aload_n 0 rfl dX11_next_9 ?_
    refine r_geti dX11_next_10 fl_X11_125 rfl ?_
    refine r_Vf [.int _] dX11_next_13 lk_X11_128 mb_X11_byteAt in_X11_byteAt se_X11_byteAt rfl (ht (s.1, s.2.1, p, s.2.2.2) rfl (show p < 2 ^ 31 by omega)) rfl rfl rfl (Nat.le_of_ble_eq_true rfl) (rfl) ?_
    refine r_bipush (v := 32) rfl dX11_next_16 ?_
    refine r_icmpne (tgt := 34) dX11_next_18 (by decide) (fun zh18 => ?_) (fun zh18 => ?_)
    · refine r_aload_n 0 rfl dX11_next_34 ?_
      refine r_aload_n 0 rfl dX11_next_35 ?_
      refine r_geti dX11_next_36 fl_X11_125 rfl ?_
      refine r_puti dX11_next_39 fl_X11_132 rfl rfl rfl ?_
      have hne := hend zh18
      refine r_mem (show _ = laQ D (s.1, p, p, s.2.2.2) from laQ_a _ p) rfl rfl ?_
      refine r_aload_n 0 rfl dX11_next_42 ?_
      refine r_aload_n 0 rfl dX11_next_43 ?_
      refine r_geti dX11_next_44 fl_X11_125 rfl ?_
      refine r_Vf [.int _] dX11_next_47 lk_X11_128 mb_X11_byteAt in_X11_byteAt se_X11_byteAt rfl (ht (s.1, p, p, s.2.2.2) rfl (show p < 2 ^ 31 by omega)) rfl rfl rfl (Nat.le_of_ble_eq_true rfl) (rfl) ?_
      refine r_istore_n (ls2 := [(1, .int (byR (D 127) L p)), (0, .ref 124)]) dX11_next_50 (by decide) rfl ?_
      refine r_iload_n 0 rfl dX11_next_51 ?_
      refine r_iconst (v := (-1)) rfl dX11_next_52 ?_
      refine r_icmpne (tgt := 64) dX11_next_53 (by decide) (fun zh53 => ?_) (fun zh53 => ?_)
      · refine r_iload_n 0 rfl dX11_next_64 ?_
        refine r_bipush (v := 97) rfl dX11_next_65 ?_
        refine r_bipush (v := 122) rfl dX11_next_67 ?_
        refine r_Sf [.int _, .int _, .int _] dX11_next_69 lk_X11_138 mb_X11_in sc_X11_in rfl (c_X11_in) rfl (Nat.le_of_ble_eq_true rfl) (rfl) ?_
        refine r_ifeq (tgt := 82) dX11_next_72 (by decide) (fun zh72 => ?_) (fun zh72 => ?_)
        · refine r_iload_n 0 rfl dX11_next_82 ?_
          refine r_bipush (v := 48) rfl dX11_next_83 ?_
          refine r_bipush (v := 57) rfl dX11_next_85 ?_
          refine r_Sf [.int _, .int _, .int _] dX11_next_87 lk_X11_138 mb_X11_in sc_X11_in rfl (c_X11_in) rfl (Nat.le_of_ble_eq_true rfl) (rfl) ?_
          refine r_ifeq (tgt := 100) dX11_next_90 (by decide) (fun zh90 => ?_) (fun zh90 => ?_)
          · refine r_aload_n 1 rfl dX11_next_100 ?_
            refine r_iload_n 0 rfl dX11_next_101 ?_
            refine r_Vn [.int _] dX11_next_102 lk_X11_148 mb_X11_nextSign in_X11_nextSign se_X11_nextSign rfl (c_X11_nextSign (s := (s.1, p, p, s.2.2.2)) (E := E)) rfl rfl rfl (Nat.le_of_ble_eq_true rfl) (rfl) ?_
            exact r_vret hG dX11_next_105 (by first
                | (rw [hfin hne _ (by unfold nxQ; rw [if_pos zh53])]; exact ⟨rfl, by rw [laQ_k], rfl, rfl⟩)
                | (rw [hfin hne _ (by unfold nxQ; rw [if_neg zh53, if_pos (show inB (byR (D 127) L p) 97 122 = true by simpa [b2z] using zh72)])]; exact ⟨rfl, rfl, rfl, rfl⟩)
                | (rw [hfin hne _ (by unfold nxQ; rw [if_neg zh53, if_neg (show ¬ inB (byR (D 127) L p) 97 122 = true by simpa [b2z] using zh72), if_pos (show inB (byR (D 127) L p) 48 57 = true by simpa [b2z] using zh90)])]; exact ⟨rfl, rfl, rfl, rfl⟩)
                | (rw [hfin hne _ (by unfold nxQ; rw [if_neg zh53, if_neg (show ¬ inB (byR (D 127) L p) 97 122 = true by simpa [b2z] using zh72), if_neg (show ¬ inB (byR (D 127) L p) 48 57 = true by simpa [b2z] using zh90)])]; exact ⟨rfl, rfl, rfl, rfl⟩))
          · refine r_aload_n 1 rfl dX11_next_93 ?_
            refine r_Vn [] dX11_next_94 lk_X11_145 mb_X11_nextWhole in_X11_nextWhole se_X11_nextWhole rfl (c_X11_nextWhole (s := (s.1, p, p, s.2.2.2)) (E := E) hM hL hl rfl hp) rfl rfl rfl (Nat.le_of_ble_eq_true rfl) (rfl) ?_
            refine r_goto (tgt := 105) dX11_next_97 (by decide) ?_
            exact r_vret hG dX11_next_105 (by first
                | (rw [hfin hne _ (by unfold nxQ; rw [if_pos zh53])]; exact ⟨rfl, by rw [laQ_k], rfl, rfl⟩)
                | (rw [hfin hne _ (by unfold nxQ; rw [if_neg zh53, if_pos (show inB (byR (D 127) L p) 97 122 = true by simpa [b2z] using zh72)])]; exact ⟨rfl, rfl, rfl, rfl⟩)
                | (rw [hfin hne _ (by unfold nxQ; rw [if_neg zh53, if_neg (show ¬ inB (byR (D 127) L p) 97 122 = true by simpa [b2z] using zh72), if_pos (show inB (byR (D 127) L p) 48 57 = true by simpa [b2z] using zh90)])]; exact ⟨rfl, rfl, rfl, rfl⟩)
                | (rw [hfin hne _ (by unfold nxQ; rw [if_neg zh53, if_neg (show ¬ inB (byR (D 127) L p) 97 122 = true by simpa [b2z] using zh72), if_neg (show ¬ inB (byR (D 127) L p) 48 57 = true by simpa [b2z] using zh90)])]; exact ⟨rfl, rfl, rfl, rfl⟩))
        · refine r_aload_n 1 rfl dX11_next_75 ?_
          refine r_Vn [] dX11_next_76 lk_X11_142 mb_X11_nextWord in_X11_nextWord se_X11_nextWord rfl (c_X11_nextWord (s := (s.1, p, p, s.2.2.2)) (E := E) hM hL hl rfl hp) rfl rfl rfl (Nat.le_of_ble_eq_true rfl) (rfl) ?_
          refine r_goto (tgt := 105) dX11_next_79 (by decide) ?_
          exact r_vret hG dX11_next_105 (by first
              | (rw [hfin hne _ (by unfold nxQ; rw [if_pos zh53])]; exact ⟨rfl, by rw [laQ_k], rfl, rfl⟩)
              | (rw [hfin hne _ (by unfold nxQ; rw [if_neg zh53, if_pos (show inB (byR (D 127) L p) 97 122 = true by simpa [b2z] using zh72)])]; exact ⟨rfl, rfl, rfl, rfl⟩)
              | (rw [hfin hne _ (by unfold nxQ; rw [if_neg zh53, if_neg (show ¬ inB (byR (D 127) L p) 97 122 = true by simpa [b2z] using zh72), if_pos (show inB (byR (D 127) L p) 48 57 = true by simpa [b2z] using zh90)])]; exact ⟨rfl, rfl, rfl, rfl⟩)
              | (rw [hfin hne _ (by unfold nxQ; rw [if_neg zh53, if_neg (show ¬ inB (byR (D 127) L p) 97 122 = true by simpa [b2z] using zh72), if_neg (show ¬ inB (byR (D 127) L p) 48 57 = true by simpa [b2z] using zh90)])]; exact ⟨rfl, rfl, rfl, rfl⟩))
      · refine r_aload_n 1 rfl dX11_next_56 ?_
        refine r_iconst (v := 1) rfl dX11_next_57 ?_
        refine r_puti dX11_next_58 fl_X11_135 rfl rfl rfl ?_
        refine r_goto (tgt := 105) dX11_next_61 (by decide) ?_
        exact r_vret hG dX11_next_105 (by first
            | (rw [hfin hne _ (by unfold nxQ; rw [if_pos zh53])]; exact ⟨rfl, by rw [laQ_k], rfl, rfl⟩)
            | (rw [hfin hne _ (by unfold nxQ; rw [if_neg zh53, if_pos (show inB (byR (D 127) L p) 97 122 = true by simpa [b2z] using zh72)])]; exact ⟨rfl, rfl, rfl, rfl⟩)
            | (rw [hfin hne _ (by unfold nxQ; rw [if_neg zh53, if_neg (show ¬ inB (byR (D 127) L p) 97 122 = true by simpa [b2z] using zh72), if_pos (show inB (byR (D 127) L p) 48 57 = true by simpa [b2z] using zh90)])]; exact ⟨rfl, rfl, rfl, rfl⟩)
            | (rw [hfin hne _ (by unfold nxQ; rw [if_neg zh53, if_neg (show ¬ inB (byR (D 127) L p) 97 122 = true by simpa [b2z] using zh72), if_neg (show ¬ inB (byR (D 127) L p) 48 57 = true by simpa [b2z] using zh90)])]; exact ⟨rfl, rfl, rfl, rfl⟩))
    · refine r_aload_n 0 rfl dX11_next_21 ?_
      refine r_dup rfl dX11_next_22 ?_
      refine r_geti dX11_next_23 fl_X11_125 rfl ?_
      refine r_iconst (v := 1) rfl dX11_next_26 ?_
      refine r_iadd dX11_next_27 ?_
      refine r_puti dX11_next_28 fl_X11_125 rfl rfl rfl ?_
      refine r_goto (tgt := 8) dX11_next_31 (by decide) ?_
      rw [e8, nI_1, laQ_s]
      exact ih (hpL zh18) (hstp zh18)
  refine r_aload_n 0 rfl dX11_next_0 ?_
  refine r_geti dX11_next_1 fl_X11_122 rfl ?_
  refine r_ifle (tgt := 8) dX11_next_4 (by decide) (fun zh4 => ?_) (fun zh4 => ?_)
  · rw [e12] at zh4
    exact loop (Int32.not_lt.mpr zh4) s.2.2.1 ok rfl
  · exact r_vret hG dX11_next_7 (by rw [e12] at zh4; unfold nxR; rw [if_pos (Int32.not_le.mp zh4)]; exact ⟨rfl, rfl, rfl, rfl⟩)
end ref2

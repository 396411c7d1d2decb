/-! Reader: 14; bytes 15, used 14 1, draft 16, fault 3, place 4, length 5, kind 6, start 7, next 8, up 9, down 10 -/
/-- fault, place, kind, start, next, up, down -/
abbrev Ps : Type := Int32 × Int32 × Int32 × Nat × Nat × Int32 × Int32
def laP (D : Nat → Nat → Int32) (s : Ps) : Nat → Nat → Int32 := fun b j => if b = 14 then (if j = 3 then s.1 else if j = 4 then s.2.1 else if j = 6 then s.2.2.1 else if j = 7 then nI s.2.2.2.1 else if j = 8 then nI s.2.2.2.2.1 else if j = 9 then s.2.2.2.2.2.1 else if j = 10 then s.2.2.2.2.2.2 else D b j) else D b j
theorem laP_b {D : Nat → Nat → Int32} (s : Ps) {b : Nat} (h : b ≠ 14) : laP D s b = D b := funext fun j => if_neg h
theorem laP_f {D : Nat → Nat → Int32} (s : Ps) : laP D s 14 3 = s.1 := rfl
theorem laP_p {D : Nat → Nat → Int32} (s : Ps) : laP D s 14 4 = s.2.1 := rfl
theorem laP_l {D : Nat → Nat → Int32} (s : Ps) : laP D s 14 5 = D 14 5 := rfl
theorem laP_k {D : Nat → Nat → Int32} (s : Ps) : laP D s 14 6 = s.2.2.1 := rfl
theorem laP_s {D : Nat → Nat → Int32} (s : Ps) : laP D s 14 7 = nI s.2.2.2.1 := rfl
theorem laP_n {D : Nat → Nat → Int32} (s : Ps) : laP D s 14 8 = nI s.2.2.2.2.1 := rfl
theorem laP_u {D : Nat → Nat → Int32} (s : Ps) : laP D s 14 9 = s.2.2.2.2.2.1 := rfl
theorem laP_d {D : Nat → Nat → Int32} (s : Ps) : laP D s 14 10 = s.2.2.2.2.2.2 := rfl
theorem laP_D {D : Nat → Nat → Int32} (s : Ps) {b j : Nat} {x : Int32} (h : b ≠ 14) : u2 (laP D s) b j x = laP (u2 D b j x) s := by
  funext c i
  simp only [u2, laP]
  grind
theorem laP_sk {D : Nat → Nat → Int32} (s : Ps) (x : Int32) : u2 (laP D s) 14 6 x = laP D (s.1, s.2.1, x, s.2.2.2) := by
  funext c i
  simp only [u2, laP]
  grind
theorem laP_ss {D : Nat → Nat → Int32} (s : Ps) (x : Nat) : u2 (laP D s) 14 7 (nI x) = laP D (s.1, s.2.1, s.2.2.1, x, s.2.2.2.2) := by
  funext c i
  simp only [u2, laP]
  grind
theorem laP_sn {D : Nat → Nat → Int32} (s : Ps) (x : Nat) : u2 (laP D s) 14 8 (nI x) = laP D (s.1, s.2.1, s.2.2.1, s.2.2.2.1, x, s.2.2.2.2.2) := by
  funext c i
  simp only [u2, laP]
  grind
theorem laP_su {D : Nat → Nat → Int32} (s : Ps) (x : Int32) : u2 (laP D s) 14 9 x = laP D (s.1, s.2.1, s.2.2.1, s.2.2.2.1, s.2.2.2.2.1, x, s.2.2.2.2.2.2) := by
  funext c i
  simp only [u2, laP]
  grind
theorem laP_sd {D : Nat → Nat → Int32} (s : Ps) (x : Int32) : u2 (laP D s) 14 10 x = laP D (s.1, s.2.1, s.2.2.1, s.2.2.2.1, s.2.2.2.2.1, s.2.2.2.2.2.1, x) := by
  funext c i
  simp only [u2, laP]
  grind
def failP (s : Ps) (k : Int32) : Ps := if s.1 = 0 then (k, nI s.2.2.2.1, s.2.2) else s
def byV (T : Nat → Int32) (L i : Nat) : Int32 := if i < L then T i &&& 255 else 0
def rowE (T : Nat → Int32) (lo hi : Int32) : Nat → Nat → Nat
  | 0, p => p
  | k + 1, p => if ¬ T p < lo ∧ ¬ hi < T p then rowE T lo hi k (p + 1) else p
theorem rowE_le (T : Nat → Int32) (lo hi : Int32) : ∀ k p, p ≤ rowE T lo hi k p ∧ rowE T lo hi k p ≤ p + k
  | 0, p => ⟨Nat.le_refl _, Nat.le_refl _⟩
  | k + 1, p => by
    rw [rowE]
    have := rowE_le T lo hi k (p + 1)
    split <;> omega
/-- where the TOKEN begins; from there on its kind and its end -/
def tkS (T : Nat → Int32) (L p : Nat) : Nat := rowE T 32 32 (L - p) p
def tokQ (T : Nat → Int32) (L s : Nat) : Int32 × Nat :=
  if L ≤ s then (0, s)
  else if ¬ byV T L s < 97 ∧ ¬ (122 : Int32) < byV T L s then ((if rowE T 97 122 (L - s) s - s ≤ 5 then 1 else 4), rowE T 97 122 (L - s) s)
  else if ¬ byV T L s < 48 ∧ ¬ (57 : Int32) < byV T L s then ((if rowE T 48 57 (L - s) s - s ≤ 3 then 2 else 4), rowE T 48 57 (L - s) s)
  else ((if ixV 8 (byV T L s) < 0 then 4 else 3), s + 1)
def stepP (T : Nat → Int32) (L : Nat) (s : Ps) : Ps := (s.1, s.2.1, (tokQ T L (tkS T L s.2.2.2.2.1)).1, tkS T L s.2.2.2.2.1, (tokQ T L (tkS T L s.2.2.2.2.1)).2, s.2.2.2.2.2)
theorem tkS_le {T : Nat → Int32} {L p : Nat} (h : p ≤ L) : p ≤ tkS T L p ∧ tkS T L p ≤ L := by
  have h1 := rowE_le T 32 32 (L - p) p
  unfold tkS
  omega
theorem tokQ_le {T : Nat → Int32} {L s : Nat} (h : s ≤ L) : s ≤ (tokQ T L s).2 ∧ (tokQ T L s).2 ≤ L := by
  have h2 := rowE_le T 97 122 (L - s) s
  have h3 := rowE_le T 48 57 (L - s) s
  unfold tokQ
  split
  · exact ⟨Nat.le_refl _, h⟩
  · split
    · exact ⟨h2.1, by show rowE T 97 122 _ _ ≤ L; omega⟩
    · split
      · exact ⟨h3.1, by show rowE T 48 57 _ _ ≤ L; omega⟩
      · exact ⟨Nat.le_succ _, by show s + 1 ≤ L; omega⟩
/-- the TOKEN lies in the text -/
def okP (L : Nat) (s : Ps) : Prop := s.2.2.2.1 ≤ s.2.2.2.2.1 ∧ s.2.2.2.2.1 ≤ L
theorem okP_step {T : Nat → Int32} {L : Nat} {s : Ps} (h : okP L s) : okP L (stepP T L s) := by
  have h1 := tkS_le (T := T) h.2
  have h2 := tokQ_le (T := T) h1.2
  exact ⟨h2.1, h2.2⟩
theorem okP_fail {L : Nat} {s : Ps} {k : Int32} (h : okP L s) : okP L (failP s k) := by
  unfold failP
  split
  · exact h
  · exact h
def sgnP (T : Nat → Int32) (L : Nat) (s : Ps) (c : Int32) : Bool := decide (s.2.2.1 = 3) && decide (byV T L s.2.2.2.1 = c)
def wrdP (T : Nat → Int32) (L : Nat) (s : Ps) (i : Nat) : Bool := decide (s.2.2.1 = 1) && (decide (s.2.2.2.2.1 - s.2.2.2.1 = x_sl' i) && (List.range (x_sl' i)).all (fun j => decide (x_sb i j = byV T L (s.2.2.2.1 + j))))
def letP (T : Nat → Int32) (L : Nat) (s : Ps) (i : Nat) : Int32 := if s.2.2.1 = 1 ∧ s.2.2.2.2.1 - s.2.2.2.1 = 1 then ixV i (byV T L s.2.2.2.1) else -1
def whlP (T : Nat → Int32) (L a : Nat) : Nat → Int32
  | 0 => 0
  | k + 1 => whlP T L a k * 10 + byV T L (a + k) - 48
theorem and255 (x : Int32) : ∃ k, k < 256 ∧ x &&& 255 = nI k := by
  refine ⟨(x &&& 255).toBitVec.toNat, ?_, ?_⟩
  · rw [Int32.toBitVec_and, BitVec.toNat_and]
    exact Nat.lt_succ_of_le Nat.and_le_right
  · apply Int32.toBitVec_inj.mp
    show _ = BitVec.ofNat 32 _
    simp
theorem byV_bd (T : Nat → Int32) (L i : Nat) : ∃ k, k < 256 ∧ byV T L i = nI k := by
  unfold byV
  split
  · exact and255 _
  · exact ⟨0, by decide, rfl⟩
theorem c256 : ∀ k, k < 256 → ((nI k).toUInt32 % 65536).toInt32 = nI k := by decide +kernel
theorem byV_c (T : Nat → Int32) (L i : Nat) : ((byV T L i).toUInt32 % 65536).toInt32 = byV T L i := by
  obtain ⟨k, hk, he⟩ := byV_bd T L i
  rw [he]
  exact c256 k hk
section reader
variable {X : xG} {n : Nat} {MI D : Nat → Nat → Int32} {ML : Nat → Nat → Int64} {MR : Nat → Nat → Option Nat} {s : Ps} {L : Nat}
set_option maxRecDepth 100000 in
theorem c_X6_fail {k : Int32} : Cf X yX6_fail cX6_fail 2 none 1 [.ref 14, .int k] n SH (laP D s) ML MR none (laP D (failP s k)) ML MR := by
  refine Ct_of (by decide) (Nat.le_of_ble_eq_true rfl) (fun G hG => ?_)
  have e : s.1 = 0 → u2 (u2 (laP D s) 14 3 k) 14 4 (nI s.2.2.2.1) = laP D (failP s k) := fun h => by
    unfold failP
    rw [if_pos h]
    funext b j
    simp only [u2, laP]
    grind
  refine r_aload_n 0 rfl dX6_fail_0 ?_
  refine r_geti dX6_fail_1 fl_X6_32 rfl ?_
  refine r_ifne (tgt := 20) dX6_fail_4 (by decide) (fun zh4 => ?_) (fun zh4 => ?_)
  · exact r_vret hG dX6_fail_20 (by first | exact ⟨rfl, e zh4, rfl, rfl⟩ | exact ⟨rfl, by unfold failP; rw [if_neg (show ¬ s.1 = 0 from zh4)], rfl, rfl⟩)
  · refine r_aload_n 0 rfl dX6_fail_7 ?_
    refine r_iload_n 1 rfl dX6_fail_8 ?_
    refine r_puti dX6_fail_9 fl_X6_32 rfl rfl rfl ?_
    refine r_aload_n 0 rfl dX6_fail_12 ?_
    refine r_aload_n 0 rfl dX6_fail_13 ?_
    refine r_geti dX6_fail_14 fl_X6_83 rfl ?_
    refine r_puti dX6_fail_17 fl_X6_35 rfl rfl rfl ?_
    exact r_vret hG dX6_fail_20 (by first | exact ⟨rfl, e zh4, rfl, rfl⟩ | exact ⟨rfl, by unfold failP; rw [if_neg (show ¬ s.1 = 0 from zh4)], rfl, rfl⟩)
set_option maxRecDepth 100000 in
theorem c_X6_byteAt (hM : x_Lay MR) (hL : L ≤ 600) (hl : MI 14 5 = nI L) {i : Nat} (hi : i < 2 ^ 31) : Cf X yX6_byteAt cX6_byteAt 2 (some .int) 1 [.ref 14, .int (nI i)] n SH MI ML MR (some (.int (byV (MI 15) L i))) MI ML MR := by
  refine Ct_of (by decide) (Nat.le_of_ble_eq_true rfl) (fun G hG => ?_)
  refine r_iload_n 1 rfl dX6_byteAt_0 ?_
  refine r_iflt (tgt := 32) dX6_byteAt_1 (by decide) (fun zh1 => ?_) (fun zh1 => ?_)
  · exact absurd zh1 (nI_pos hi)
  refine r_iload_n 1 rfl dX6_byteAt_4 ?_
  refine r_aload_n 0 rfl dX6_byteAt_5 ?_
  refine r_geti dX6_byteAt_6 fl_X6_26 rfl ?_
  refine r_icmpge (tgt := 32) dX6_byteAt_9 (by decide) (fun zh9 => ?_) (fun zh9 => ?_)
  · refine r_iconst (v := 0) rfl dX6_byteAt_32 ?_
    exact r_iret hG dX6_byteAt_33 (by first | (rw [nI_clamp hi]; exact ⟨by unfold byV; rw [if_pos hlt], rfl, rfl, rfl⟩) | (rw [hl] at zh9; exact ⟨by unfold byV; rw [if_neg (Nat.not_lt.mpr (geL (k := L) (by omega) hi zh9))], rfl, rfl, rfl⟩) | (exact absurd (geL (k := 600) (by decide) hi zh16) (by omega)))
  · rw [hl] at zh9
    have hlt : i < L := ltL hi zh9
    refine r_iload_n 1 rfl dX6_byteAt_12 ?_
    refine r_sipush (v := 600) rfl dX6_byteAt_13 ?_
    refine r_icmpge (tgt := 32) dX6_byteAt_16 (by decide) (fun zh16 => ?_) (fun zh16 => ?_)
    · refine r_iconst (v := 0) rfl dX6_byteAt_32 ?_
      exact r_iret hG dX6_byteAt_33 (by first | (rw [nI_clamp hi]; exact ⟨by unfold byV; rw [if_pos hlt], rfl, rfl, rfl⟩) | (rw [hl] at zh9; exact ⟨by unfold byV; rw [if_neg (Nat.not_lt.mpr (geL (k := L) (by omega) hi zh9))], rfl, rfl, rfl⟩) | (exact absurd (geL (k := 600) (by decide) hi zh16) (by omega)))
    · refine r_aload_n 0 rfl dX6_byteAt_19 ?_
      refine r_getr dX6_byteAt_20 fl_X6_11 rfl (hM _ _ _ rfl) ?_
      refine r_iload_n 1 rfl dX6_byteAt_23 ?_
      refine r_bald dX6_byteAt_24 rfl (vp_in_nI (show i < 600 by omega) (by decide)) ?_
      refine r_sipush (v := 255) rfl dX6_byteAt_25 ?_
      refine r_iand dX6_byteAt_28 ?_
      refine r_goto (tgt := 33) dX6_byteAt_29 (by decide) ?_
      exact r_iret hG dX6_byteAt_33 (by first | (rw [nI_clamp hi]; exact ⟨by unfold byV; rw [if_pos hlt], rfl, rfl, rfl⟩) | (rw [hl] at zh9; exact ⟨by unfold byV; rw [if_neg (Nat.not_lt.mpr (geL (k := L) (by omega) hi zh9))], rfl, rfl, rfl⟩) | (exact absurd (geL (k := 600) (by decide) hi zh16) (by omega)))
set_option maxRecDepth 100000 in
theorem c_X6_rowEnd (hM : x_Lay MR) (hL : L ≤ 600) (hl : MI 14 5 = nI L) {p : Nat} (hp : p ≤ L) {lo hi : Int32} : Cf X yX6_rowEnd cX6_rowEnd 5 (some .int) 1 [.ref 14, .int (nI p), .int lo, .int hi] n SH MI ML MR (some (.int (nI (rowE (MI 15) lo hi (L - p) p)))) MI ML MR := by
  refine Ct_of (by decide) (Nat.le_of_ble_eq_true rfl) (fun G hG => ?_)
  have loop : ∀ q, q ≤ L → p ≤ q → rowE (MI 15) lo hi (L - p) p = rowE (MI 15) lo hi (L - q) q → RW X G RX6 cX6_rowEnd 5 (x_rm 1 0 0) n SH MI ML MR 0 0 3 [(4, .int (nI q)), (0, .ref 14), (1, .int (nI p)), (2, .int lo), (3, .int hi)] [] := by
    refine bwd (fun q hq ih hpq he => ?_)
    have hrow : q < L → rowE (MI 15) lo hi (L - q) q = if ¬ MI 15 q < lo ∧ ¬ hi < MI 15 q then rowE (MI 15) lo hi (L - (q + 1)) (q + 1) else q := fun h => by
      rw [show L - q = (L - (q + 1)) + 1 by omega, rowE]
    refine r_iload 0 rfl dX6_rowEnd_3 ?_
    refine r_iflt (tgt := 53) dX6_rowEnd_5 (by decide) (fun zh5 => ?_) (fun zh5 => ?_)
    · exact absurd zh5 (nI_pos (by omega))
    refine r_iload 0 rfl dX6_rowEnd_8 ?_
    refine r_aload_n 1 rfl dX6_rowEnd_10 ?_
    refine r_geti dX6_rowEnd_11 fl_X6_26 rfl ?_
    refine r_icmpge (tgt := 53) dX6_rowEnd_14 (by decide) (fun zh14 => ?_) (fun zh14 => ?_)
    · refine r_iload 0 rfl dX6_rowEnd_53 ?_
      exact r_iret hG dX6_rowEnd_55 (by first | (rw [hl] at zh14; have h9 := geL (k := L) (by omega) (by omega) zh14; exact ⟨by rw [he, show L - q = 0 by omega]; rfl, rfl, rfl, rfl⟩) | (rw [nI_clamp (by omega)] at zh33; exact ⟨by rw [he, hrow hlt, if_neg (fun z => z.1 zh33)], rfl, rfl, rfl⟩) | (rw [nI_clamp (by omega)] at zh44; exact ⟨by rw [he, hrow hlt, if_neg (fun z => z.2 zh44)], rfl, rfl, rfl⟩))
    · rw [hl] at zh14
      have hlt : q < L := ltL (by omega) zh14
      refine r_iload 0 rfl dX6_rowEnd_17 ?_
      refine r_sipush (v := 600) rfl dX6_rowEnd_19 ?_
      refine r_icmpge (tgt := 53) dX6_rowEnd_22 (by decide) (fun zh22 => ?_) (fun zh22 => ?_)
      · exact absurd zh22 (fun z => absurd (geL (k := 600) (by decide) (by omega) z) (by omega))
      refine r_aload_n 1 rfl dX6_rowEnd_25 ?_
      refine r_getr dX6_rowEnd_26 fl_X6_11 rfl (hM _ _ _ rfl) ?_
      refine r_iload 0 rfl dX6_rowEnd_29 ?_
      refine r_bald dX6_rowEnd_31 rfl (vp_in_nI (show q < 600 by omega) (by decide)) ?_
      refine r_iload_n 3 rfl dX6_rowEnd_32 ?_
      refine r_icmplt (tgt := 53) dX6_rowEnd_33 (by decide) (fun zh33 => ?_) (fun zh33 => ?_)
      · refine r_iload 0 rfl dX6_rowEnd_53 ?_
        exact r_iret hG dX6_rowEnd_55 (by first | (rw [hl] at zh14; have h9 := geL (k := L) (by omega) (by omega) zh14; exact ⟨by rw [he, show L - q = 0 by omega]; rfl, rfl, rfl, rfl⟩) | (rw [nI_clamp (by omega)] at zh33; exact ⟨by rw [he, hrow hlt, if_neg (fun z => z.1 zh33)], rfl, rfl, rfl⟩) | (rw [nI_clamp (by omega)] at zh44; exact ⟨by rw [he, hrow hlt, if_neg (fun z => z.2 zh44)], rfl, rfl, rfl⟩))
      · rw [nI_clamp (by omega)] at zh33
        refine r_aload_n 1 rfl dX6_rowEnd_36 ?_
        refine r_getr dX6_rowEnd_37 fl_X6_11 rfl (hM _ _ _ rfl) ?_
        refine r_iload 0 rfl dX6_rowEnd_40 ?_
        refine r_bald dX6_rowEnd_42 rfl (vp_in_nI (show q < 600 by omega) (by decide)) ?_
        refine r_iload_n 4 rfl dX6_rowEnd_43 ?_
        refine r_icmpgt (tgt := 53) dX6_rowEnd_44 (by decide) (fun zh44 => ?_) (fun zh44 => ?_)
        · refine r_iload 0 rfl dX6_rowEnd_53 ?_
          exact r_iret hG dX6_rowEnd_55 (by first | (rw [hl] at zh14; have h9 := geL (k := L) (by omega) (by omega) zh14; exact ⟨by rw [he, show L - q = 0 by omega]; rfl, rfl, rfl, rfl⟩) | (rw [nI_clamp (by omega)] at zh33; exact ⟨by rw [he, hrow hlt, if_neg (fun z => z.1 zh33)], rfl, rfl, rfl⟩) | (rw [nI_clamp (by omega)] at zh44; exact ⟨by rw [he, hrow hlt, if_neg (fun z => z.2 zh44)], rfl, rfl, rfl⟩))
        · rw [nI_clamp (by omega)] at zh44
          refine r_iinc (v := (nI (q + 1))) (ls2 := [(4, .int (nI (q + 1))), (0, .ref 14), (1, .int (nI p)), (2, .int lo), (3, .int hi)]) 0 dX6_rowEnd_47 rfl (x_inc q) (by decide) rfl ?_
          refine r_goto (tgt := 3) dX6_rowEnd_50 (by decide) ?_
          exact ih hlt (by omega) (by rw [he, hrow hlt, if_pos ⟨zh33, zh44⟩])
  refine r_iload_n 1 rfl dX6_rowEnd_0 ?_
  refine r_istore (ls2 := [(4, .int (nI p)), (0, .ref 14), (1, .int (nI p)), (2, .int lo), (3, .int hi)]) dX6_rowEnd_1 (by decide) rfl ?_
  exact loop p hp (Nat.le_refl p) rfl
theorem t_byteAt (hM : x_Lay MR) (hL : L ≤ 600) (hl : D 14 5 = nI L) {i : Nat} (hi : i < 2 ^ 31) : Cf X yX6_byteAt cX6_byteAt 2 (some .int) 1 [.ref 14, .int (nI i)] n SH (laP D s) ML MR (some (.int (byV (D 15) L i))) (laP D s) ML MR := by
  have h := c_X6_byteAt (X := X) (n := n) (MI := laP D s) (ML := ML) (MR := MR) hM hL hl hi
  rw [laP_b s (show (15 : Nat) ≠ 14 by decide)] at h
  exact h
theorem t_rowEnd (hM : x_Lay MR) (hL : L ≤ 600) (hl : D 14 5 = nI L) {p : Nat} (hp : p ≤ L) {lo hi : Int32} : Cf X yX6_rowEnd cX6_rowEnd 5 (some .int) 1 [.ref 14, .int (nI p), .int lo, .int hi] n SH (laP D s) ML MR (some (.int (nI (rowE (D 15) lo hi (L - p) p)))) (laP D s) ML MR := by
  have h := c_X6_rowEnd (X := X) (n := n) (MI := laP D s) (ML := ML) (MR := MR) hM hL hl hp (lo := lo) (hi := hi)
  rw [laP_b s (show (15 : Nat) ≠ 14 by decide)] at h
  exact h
theorem nI_subI {a b : Nat} (h : b ≤ a) : nI a - nI b = nI (a - b) := by
  have e : nI (a - b) + nI b = nI a := by rw [nI_add, show a - b + b = a by omega]
  rw [← e, Int32.add_sub_cancel]
theorem nI_gt {a b : Nat} (hb : b < 2 ^ 31) (h : ¬ nI a < nI b) (ha : a < 2 ^ 31) : b ≤ a := Nat.not_lt.mp fun q => h (nI_lt q hb)
set_option maxRecDepth 100000 in
theorem c_X6_step0 (hM : x_Lay MR) (hS2 : x_S2 X) (hL : L ≤ 600) (hl : D 14 5 = nI L) (ok2 : s.2.2.2.2.1 ≤ L) : Cf X yX6_step cX6_step 2 none 5 [.ref 14] n SH (laP D s) ML MR none (laP D (stepP (D 15) L s)) ML MR := by
  obtain ⟨S0, hS0⟩ : ∃ S0, S0 = tkS (D 15) L s.2.2.2.2.1 := ⟨_, rfl⟩
  have hS1 := tkS_le (T := D 15) ok2
  rw [← hS0] at hS1
  obtain ⟨ww, hww⟩ : ∃ ww, ww = rowE (D 15) 97 122 (L - S0) S0 := ⟨_, rfl⟩
  obtain ⟨wn, hwn⟩ : ∃ wn, wn = rowE (D 15) 48 57 (L - S0) S0 := ⟨_, rfl⟩
  have hw1 := rowE_le (D 15) 97 122 (L - S0) S0
  have hn1 := rowE_le (D 15) 48 57 (L - S0) S0
  rw [← hww] at hw1
  rw [← hwn] at hn1
  have hq : tokQ (D 15) L S0 = (if L ≤ S0 then ((0, S0) : Int32 × Nat)
    else if ¬ byV (D 15) L S0 < 97 ∧ ¬ (122 : Int32) < byV (D 15) L S0 then ((if ww - S0 ≤ 5 then 1 else 4), ww)
    else if ¬ byV (D 15) L S0 < 48 ∧ ¬ (57 : Int32) < byV (D 15) L S0 then ((if wn - S0 ≤ 3 then 2 else 4), wn)
    else ((if ixV 8 (byV (D 15) L S0) < 0 then 4 else 3), S0 + 1)) := by rw [hww, hwn]; rfl
  refine Ct_of (by decide) (Nat.le_of_ble_eq_true rfl) (fun G hG => ?_)
  have fin : ∀ k e, tokQ (D 15) L S0 = (k, e) → laP D (s.1, s.2.1, k, S0, e, s.2.2.2.2.2) = laP D (stepP (D 15) L s) := fun k e h => by
    unfold stepP
    rw [← hS0, h]
  have sub5 : nI ww - nI S0 = nI (ww - S0) := nI_subI hw1.1
  have sub3 : nI wn - nI S0 = nI (wn - S0) := nI_subI hn1.1
  obtain ⟨s1, hs1⟩ : ∃ s1 : Ps, s1 = (s.1, s.2.1, s.2.2.1, S0, s.2.2.2.2) := ⟨_, rfl⟩
  have h14 : laP D s1 14 7 = nI S0 := by rw [laP_s, hs1]
  have j158 : ¬ L ≤ S0 → ¬ (¬ byV (D 15) L S0 < 97 ∧ ¬ (122 : Int32) < byV (D 15) L S0) → ¬ (¬ byV (D 15) L S0 < 48 ∧ ¬ (57 : Int32) < byV (D 15) L S0) → RW X G RX6 cX6_step 2 (x_rm 5 0 0) n SH (laP D s1) ML MR 0 0 158 [(1, .int (byV (D 15) L S0)), (0, .ref 14)] [] := by
    intro h1 h2 h3
    rw [if_neg h1, if_neg h2, if_neg h3] at hq
    refine r_aload_n 1 rfl dX6_step_158 ?_
    refine r_aload_n 1 rfl dX6_step_159 ?_
    refine r_geti dX6_step_160 fl_X6_83 rfl ?_
    refine r_iconst (v := 1) rfl dX6_step_163 ?_
    refine r_iadd dX6_step_164 ?_
    refine r_puti dX6_step_165 fl_X6_29 rfl rfl rfl ?_
    rw [h14, show nI S0 + 1 = nI (S0 + 1) from x_inc S0, laP_sn]
    refine r_aload_n 1 rfl dX6_step_168 ?_
    refine r_ldcS (k0 := 1009) sr_X6_94 (by decide) dX6_step_169 ?_
    refine r_iload_n 0 rfl dX6_step_171 ?_
    refine r_i2c dX6_step_172 ?_
    refine r_VRf [.int _] dX6_step_173 lk_X6_96 mb_J0_indexOf_0f7a4 in_J0_indexOf_0f7a4 se_J0_indexOf_0f7a4 rfl (c_J0_indexOf_0f7a4 hS2 (i := 8) (by decide)) hS2 (by decide) rfl rfl (Nat.le_of_ble_eq_true rfl) (rfl) ?_
    rw [byV_c]
    refine r_iflt (tgt := 183) dX6_step_176 (by decide) (fun zh176 => ?_) (fun zh176 => ?_)
    · refine r_iconst (v := 4) rfl dX6_step_183 ?_
      refine r_puti dX6_step_184 fl_X6_76 rfl rfl rfl ?_
      exact r_vret hG dX6_step_187 (⟨rfl, by rw [laP_sk, hs1]; first | (rw [if_pos zh176] at hq; exact fin _ _ hq) | (rw [if_neg zh176] at hq; exact fin _ _ hq), rfl, rfl⟩)
    · refine r_iconst (v := 3) rfl dX6_step_179 ?_
      refine r_goto (tgt := 184) dX6_step_180 (by decide) ?_
      refine r_puti dX6_step_184 fl_X6_76 rfl rfl rfl ?_
      exact r_vret hG dX6_step_187 (⟨rfl, by rw [laP_sk, hs1]; first | (rw [if_pos zh176] at hq; exact fin _ _ hq) | (rw [if_neg zh176] at hq; exact fin _ _ hq), rfl, rfl⟩)
  have j105 : ¬ L ≤ S0 → ¬ (¬ byV (D 15) L S0 < 97 ∧ ¬ (122 : Int32) < byV (D 15) L S0) → RW X G RX6 cX6_step 2 (x_rm 5 0 0) n SH (laP D s1) ML MR 0 0 105 [(1, .int (byV (D 15) L S0)), (0, .ref 14)] [] := by
    intro h1 h2
    refine r_iload_n 0 rfl dX6_step_105 ?_
    refine r_bipush (v := 48) rfl dX6_step_106 ?_
    refine r_icmplt (tgt := 158) dX6_step_108 (by decide) (fun zh108 => ?_) (fun zh108 => ?_)
    · first | exact j158 h1 h2 (fun z => z.1 zh108) | exact j158 h1 h2 (fun z => z.2 zh114)
    · refine r_iload_n 0 rfl dX6_step_111 ?_
      refine r_bipush (v := 57) rfl dX6_step_112 ?_
      refine r_icmpgt (tgt := 158) dX6_step_114 (by decide) (fun zh114 => ?_) (fun zh114 => ?_)
      · first | exact j158 h1 h2 (fun z => z.1 zh108) | exact j158 h1 h2 (fun z => z.2 zh114)
      · refine r_aload_n 1 rfl dX6_step_117 ?_
        refine r_aload_n 1 rfl dX6_step_118 ?_
        refine r_aload_n 1 rfl dX6_step_119 ?_
        refine r_geti dX6_step_120 fl_X6_83 rfl ?_
        refine r_bipush (v := 48) rfl dX6_step_123 ?_
        refine r_bipush (v := 57) rfl dX6_step_125 ?_
        refine r_Vf [.int _, .int _, .int _] dX6_step_127 lk_X6_86 mb_X6_rowEnd in_X6_rowEnd se_X6_rowEnd rfl ((by rw [h14]; exact t_rowEnd hM hL hl (p := S0) hS1.2)) rfl rfl rfl (Nat.le_of_ble_eq_true rfl) (rfl) ?_
        rw [← hwn]
        refine r_puti dX6_step_130 fl_X6_29 rfl rfl rfl ?_
        rw [laP_sn]
        rw [if_neg h1, if_neg h2, if_pos ⟨zh108, zh114⟩] at hq
        refine r_aload_n 1 rfl dX6_step_133 ?_
        refine r_aload_n 1 rfl dX6_step_134 ?_
        refine r_geti dX6_step_135 fl_X6_29 rfl ?_
        refine r_aload_n 1 rfl dX6_step_138 ?_
        refine r_geti dX6_step_139 fl_X6_83 rfl ?_
        refine r_isub dX6_step_142 ?_
        refine r_iconst (v := 3) rfl dX6_step_143 ?_
        refine r_icmpgt (tgt := 151) dX6_step_144 (by decide) (fun zh144 => ?_) (fun zh144 => ?_)
        · refine r_iconst (v := 4) rfl dX6_step_151 ?_
          refine r_puti dX6_step_152 fl_X6_76 rfl rfl rfl ?_
          refine r_goto (tgt := 187) dX6_step_155 (by decide) ?_
          exact r_vret hG dX6_step_187 (⟨rfl, by have zz := zh144; rw [laP_n, laP_s, hs1] at zz; have zy : ((3 : Int32) < nI wn - nI S0) ∨ ¬ ((3 : Int32) < nI wn - nI S0) := Classical.em _; rw [laP_sk, hs1]; first | (rw [if_neg (fun q => absurd (show (3 : Int32) < nI wn - nI S0 from zz) (by rw [sub3]; exact fun z => absurd ((nI_ltI (a := 3) (by decide) (by omega)).mp z) (by omega)))] at hq; exact fin _ _ hq) | (rw [if_pos (Nat.not_lt.mp fun q => (show ¬ (3 : Int32) < nI wn - nI S0 from zz) (by rw [sub3]; exact nI_lt (a := 3) q (by omega)))] at hq; exact fin _ _ hq), rfl, rfl⟩)
        · refine r_iconst (v := 2) rfl dX6_step_147 ?_
          refine r_goto (tgt := 152) dX6_step_148 (by decide) ?_
          refine r_puti dX6_step_152 fl_X6_76 rfl rfl rfl ?_
          refine r_goto (tgt := 187) dX6_step_155 (by decide) ?_
          exact r_vret hG dX6_step_187 (⟨rfl, by have zz := zh144; rw [laP_n, laP_s, hs1] at zz; have zy : ((3 : Int32) < nI wn - nI S0) ∨ ¬ ((3 : Int32) < nI wn - nI S0) := Classical.em _; rw [laP_sk, hs1]; first | (rw [if_neg (fun q => absurd (show (3 : Int32) < nI wn - nI S0 from zz) (by rw [sub3]; exact fun z => absurd ((nI_ltI (a := 3) (by decide) (by omega)).mp z) (by omega)))] at hq; exact fin _ _ hq) | (rw [if_pos (Nat.not_lt.mp fun q => (show ¬ (3 : Int32) < nI wn - nI S0 from zz) (by rw [sub3]; exact nI_lt (a := 3) q (by omega)))] at hq; exact fin _ _ hq), rfl, rfl⟩)
  refine r_aload_n 0 rfl dX6_step_0 ?_
  refine r_aload_n 0 rfl dX6_step_1 ?_
  refine r_aload_n 0 rfl dX6_step_2 ?_
  refine r_geti dX6_step_3 fl_X6_29 rfl ?_
  refine r_bipush (v := 32) rfl dX6_step_6 ?_
  refine r_bipush (v := 32) rfl dX6_step_8 ?_
  refine r_Vf [.int _, .int _, .int _] dX6_step_10 lk_X6_86 mb_X6_rowEnd in_X6_rowEnd se_X6_rowEnd rfl (t_rowEnd hM hL hl (p := s.2.2.2.2.1) ok2) rfl rfl rfl (Nat.le_of_ble_eq_true rfl) (rfl) ?_
  rw [show rowE (D 15) 32 32 (L - s.2.2.2.2.1) s.2.2.2.2.1 = S0 from hS0.symm]
  refine r_puti dX6_step_13 fl_X6_83 rfl rfl rfl ?_
  rw [laP_ss, ← hs1]
  refine r_aload_n 0 rfl dX6_step_16 ?_
  refine r_aload_n 0 rfl dX6_step_17 ?_
  refine r_geti dX6_step_18 fl_X6_83 rfl ?_
  refine r_Vf [.int _] dX6_step_21 lk_X6_90 mb_X6_byteAt in_X6_byteAt se_X6_byteAt rfl ((by rw [h14]; exact t_byteAt hM hL hl (i := S0) (by omega))) rfl rfl rfl (Nat.le_of_ble_eq_true rfl) (rfl) ?_
  refine r_istore_n (ls2 := [(1, .int (byV (D 15) L S0)), (0, .ref 14)]) dX6_step_24 (by decide) rfl ?_
  refine r_aload_n 1 rfl dX6_step_25 ?_
  refine r_geti dX6_step_26 fl_X6_83 rfl ?_
  refine r_aload_n 1 rfl dX6_step_29 ?_
  refine r_geti dX6_step_30 fl_X6_26 rfl ?_
  refine r_icmplt (tgt := 52) dX6_step_33 (by decide) (fun zh33 => ?_) (fun zh33 => ?_)
  · have hlt : ¬ L ≤ S0 := by
      rw [h14, laP_l, hl] at zh33
      have := (nI_ltI (by omega) (by omega)).mp zh33
      omega
    refine r_iload_n 0 rfl dX6_step_52 ?_
    refine r_bipush (v := 97) rfl dX6_step_53 ?_
    refine r_icmplt (tgt := 105) dX6_step_55 (by decide) (fun zh55 => ?_) (fun zh55 => ?_)
    · first | exact j105 hlt (fun z => z.1 zh55) | exact j105 hlt (fun z => z.2 zh61)
    · refine r_iload_n 0 rfl dX6_step_58 ?_
      refine r_bipush (v := 122) rfl dX6_step_59 ?_
      refine r_icmpgt (tgt := 105) dX6_step_61 (by decide) (fun zh61 => ?_) (fun zh61 => ?_)
      · first | exact j105 hlt (fun z => z.1 zh55) | exact j105 hlt (fun z => z.2 zh61)
      · refine r_aload_n 1 rfl dX6_step_64 ?_
        refine r_aload_n 1 rfl dX6_step_65 ?_
        refine r_aload_n 1 rfl dX6_step_66 ?_
        refine r_geti dX6_step_67 fl_X6_83 rfl ?_
        refine r_bipush (v := 97) rfl dX6_step_70 ?_
        refine r_bipush (v := 122) rfl dX6_step_72 ?_
        refine r_Vf [.int _, .int _, .int _] dX6_step_74 lk_X6_86 mb_X6_rowEnd in_X6_rowEnd se_X6_rowEnd rfl ((by rw [h14]; exact t_rowEnd hM hL hl (p := S0) hS1.2)) rfl rfl rfl (Nat.le_of_ble_eq_true rfl) (rfl) ?_
        rw [← hww]
        refine r_puti dX6_step_77 fl_X6_29 rfl rfl rfl ?_
        rw [laP_sn]
        rw [if_neg hlt, if_pos ⟨zh55, zh61⟩] at hq
        refine r_aload_n 1 rfl dX6_step_80 ?_
        refine r_aload_n 1 rfl dX6_step_81 ?_
        refine r_geti dX6_step_82 fl_X6_29 rfl ?_
        refine r_aload_n 1 rfl dX6_step_85 ?_
        refine r_geti dX6_step_86 fl_X6_83 rfl ?_
        refine r_isub dX6_step_89 ?_
        refine r_iconst (v := 5) rfl dX6_step_90 ?_
        refine r_icmpgt (tgt := 98) dX6_step_91 (by decide) (fun zh91 => ?_) (fun zh91 => ?_)
        · refine r_iconst (v := 4) rfl dX6_step_98 ?_
          refine r_puti dX6_step_99 fl_X6_76 rfl rfl rfl ?_
          refine r_goto (tgt := 187) dX6_step_102 (by decide) ?_
          exact r_vret hG dX6_step_187 (by first
  | (rw [if_pos hge] at hq
     refine ⟨rfl, ?_, rfl, rfl⟩
     rw [laP_sk, laP_s, laP_sn, hs1]
     exact fin _ _ hq)
  | (refine ⟨rfl, ?_, rfl, rfl⟩
     have zz := zh91
     rw [laP_n, laP_s, hs1] at zz
     rw [laP_sk, hs1]
     first
       | (rw [if_neg (fun q => absurd (show (5 : Int32) < nI ww - nI S0 from zz) (by rw [sub5]; exact fun z => absurd ((nI_ltI (a := 5) (by decide) (by omega)).mp z) (by omega)))] at hq; exact fin _ _ hq)
       | (rw [if_pos (Nat.not_lt.mp fun q => (show ¬ (5 : Int32) < nI ww - nI S0 from zz) (by rw [sub5]; exact nI_lt (a := 5) q (by omega)))] at hq; exact fin _ _ hq)))
        · refine r_iconst (v := 1) rfl dX6_step_94 ?_
          refine r_goto (tgt := 99) dX6_step_95 (by decide) ?_
          refine r_puti dX6_step_99 fl_X6_76 rfl rfl rfl ?_
          refine r_goto (tgt := 187) dX6_step_102 (by decide) ?_
          exact r_vret hG dX6_step_187 (by first
  | (rw [if_pos hge] at hq
     refine ⟨rfl, ?_, rfl, rfl⟩
     rw [laP_sk, laP_s, laP_sn, hs1]
     exact fin _ _ hq)
  | (refine ⟨rfl, ?_, rfl, rfl⟩
     have zz := zh91
     rw [laP_n, laP_s, hs1] at zz
     rw [laP_sk, hs1]
     first
       | (rw [if_neg (fun q => absurd (show (5 : Int32) < nI ww - nI S0 from zz) (by rw [sub5]; exact fun z => absurd ((nI_ltI (a := 5) (by decide) (by omega)).mp z) (by omega)))] at hq; exact fin _ _ hq)
       | (rw [if_pos (Nat.not_lt.mp fun q => (show ¬ (5 : Int32) < nI ww - nI S0 from zz) (by rw [sub5]; exact nI_lt (a := 5) q (by omega)))] at hq; exact fin _ _ hq)))
  · have hge : L ≤ S0 := nI_gt (a := S0) (by omega) (by rw [h14, laP_l, hl] at zh33; exact zh33) (by omega)
    refine r_aload_n 1 rfl dX6_step_36 ?_
    refine r_iconst (v := 0) rfl dX6_step_37 ?_
    refine r_puti dX6_step_38 fl_X6_76 rfl rfl rfl ?_
    refine r_aload_n 1 rfl dX6_step_41 ?_
    refine r_aload_n 1 rfl dX6_step_42 ?_
    refine r_geti dX6_step_43 fl_X6_83 rfl ?_
    refine r_puti dX6_step_46 fl_X6_29 rfl rfl rfl ?_
    refine r_goto (tgt := 187) dX6_step_49 (by decide) ?_
    exact r_vret hG dX6_step_187 (by first
  | (rw [if_pos hge] at hq
     refine ⟨rfl, ?_, rfl, rfl⟩
     rw [laP_sk, laP_s, laP_sn, hs1]
     exact fin _ _ hq)
  | (refine ⟨rfl, ?_, rfl, rfl⟩
     have zz := zh91
     rw [laP_n, laP_s, hs1] at zz
     rw [laP_sk, hs1]
     first
       | (rw [if_neg (fun q => absurd (show (5 : Int32) < nI ww - nI S0 from zz) (by rw [sub5]; exact fun z => absurd ((nI_ltI (a := 5) (by decide) (by omega)).mp z) (by omega)))] at hq; exact fin _ _ hq)
       | (rw [if_pos (Nat.not_lt.mp fun q => (show ¬ (5 : Int32) < nI ww - nI S0 from zz) (by rw [sub5]; exact nI_lt (a := 5) q (by omega)))] at hq; exact fin _ _ hq)))
set_option maxRecDepth 100000 in
theorem c_X6_step (hM : x_Lay MR) (hS2 : x_S2 X) (hL : L ≤ 600) (hl : D 14 5 = nI L) (ok : okP L s) : Cf X yX6_step cX6_step 2 none 5 [.ref 14] n SH (laP D s) ML MR none (laP D (stepP (D 15) L s)) ML MR := c_X6_step0 hM hS2 hL hl ok.2
end reader

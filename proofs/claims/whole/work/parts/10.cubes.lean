/-! Cubes: 57, its table 58 -/
def numC (p f : Int32) : Nat → Int32
  | 0 => 0
  | m + 1 => numC p f m * 3 + (if bitZ f m then (p >>> (nI m &&& 31)) &&& 1 else 2)
def ptsL (p f : Int32) : Nat → Int64
  | 0 => -1
  | m + 1 => if bitZ f m then ptsL p f m &&& (if bitZ p m then onesL.getD m 0 ^^^ -1 else onesL.getD m 0) else ptsL p f m
def divN (c : Int32) : Nat → Int32
  | 0 => c
  | m + 1 => divN c m / 3
theorem clampLt {x : Int32} {N : Nat} (hN : N < 2 ^ 31) (h1 : ¬ x < 0) (h2 : ¬ nI N ≤ x) : x.toNatClampNeg < N := Nat.not_le.mp fun q => vpin_of hN h1 h2 (Or.inr q)
theorem x_dec (i : Nat) : nI (i + 1) + Int32.ofInt (-1) = nI i := by
  rw [show Int32.ofInt (-1) = -1 from by decide]
  exact pk_m1 i
section cub
variable {X : xG} {n : Nat} {MI : Nat → Nat → Int32} {ML : Nat → Nat → Int64} {MR : Nat → Nat → Option Nat}
def ptsV (ML : Nat → Nat → Int64) (x : Int32) : Int64 := if inR x 729 then ML 58 x.toNatClampNeg else 0
set_option maxRecDepth 100000 in
theorem c_X2_pointsOf (hM : x_Lay MR) {x : Int32} : Cf X yX2_pointsOf cX2_pointsOf 2 (some .long) 1 [.ref 57, .int x] n SH MI ML MR (some (.long (ptsV ML x))) MI ML MR := by
  refine Ct_of (by decide) (Nat.le_of_ble_eq_true rfl) (fun G hG => ?_)
  refine r_iload_n 1 rfl dX2_pointsOf_0 ?_
  refine r_iflt (tgt := 20) dX2_pointsOf_1 (by decide) (fun zh1 => ?_) (fun zh1 => ?_)
  · refine r_lconst (v := 0) rfl dX2_pointsOf_20 ?_
    exact r_lret hG dX2_pointsOf_21 (⟨by simp_all [inR, ptsV], rfl, rfl, rfl⟩)
  · refine r_iload_n 1 rfl dX2_pointsOf_4 ?_
    refine r_sipush (v := 729) rfl dX2_pointsOf_5 ?_
    refine r_icmpge (tgt := 20) dX2_pointsOf_8 (by decide) (fun zh8 => ?_) (fun zh8 => ?_)
    · refine r_lconst (v := 0) rfl dX2_pointsOf_20 ?_
      exact r_lret hG dX2_pointsOf_21 (⟨by simp_all [inR, ptsV], rfl, rfl, rfl⟩)
    · refine r_aload_n 0 rfl dX2_pointsOf_11 ?_
      refine r_getr dX2_pointsOf_12 fl_X2_9 rfl (hM _ _ _ rfl) ?_
      refine r_iload_n 1 rfl dX2_pointsOf_15 ?_
      refine r_lald dX2_pointsOf_16 rfl (vpin_of (N := 729) (by decide) zh1 zh8) ?_
      refine r_goto (tgt := 21) dX2_pointsOf_17 (by decide) ?_
      exact r_lret hG dX2_pointsOf_21 (⟨by simp_all [inR, ptsV], rfl, rfl, rfl⟩)
set_option maxRecDepth 100000 in
theorem c_X2_numberOf {p f : Int32} : Cf X yX2_numberOf cX2_numberOf 5 (some .int) 1 [.int p, .int f] n SH MI ML MR (some (.int (numC p f 6))) MI ML MR := by
  refine Ct_of (by decide) (Nat.le_of_ble_eq_true rfl) (fun G hG => ?_)
  have loop : ∀ i, i ≤ 6 → RW X G RX2 cX2_numberOf 5 (x_rm 1 0 0) n SH MI ML MR 0 0 4 [(3, .int (nI i)), (2, .int (numC p f i)), (0, .int p), (1, .int f)] [] := by
    refine bwd (fun i hi ih => ?_)
    refine r_iload_n 0 rfl dX2_numberOf_4 ?_
    refine r_bipush (v := 6) rfl dX2_numberOf_5 ?_
    refine r_icmpge (tgt := 42) dX2_numberOf_7 (by decide) (fun zh7 => ?_) (fun zh7 => ?_)
    · obtain rfl : i = 6 := by have := geL (k := 6) (by decide) (by omega) zh7; omega
      refine r_iload_n 1 rfl dX2_numberOf_42 ?_
      exact r_iret hG dX2_numberOf_43 (⟨rfl, rfl, rfl, rfl⟩)
    · have hlt : i < 6 := ltL (by omega) zh7
      refine r_iload_n 3 rfl dX2_numberOf_10 ?_
      refine r_iload_n 0 rfl dX2_numberOf_11 ?_
      refine r_ishr dX2_numberOf_12 ?_
      refine r_iconst (v := 1) rfl dX2_numberOf_13 ?_
      refine r_iand dX2_numberOf_14 ?_
      refine r_ifeq (tgt := 22) dX2_numberOf_15 (by decide) (fun zh15 => ?_) (fun zh15 => ?_)
      · refine r_iload_n 2 rfl dX2_numberOf_22 ?_
        refine r_iload_n 0 rfl dX2_numberOf_23 ?_
        refine r_ishr dX2_numberOf_24 ?_
        refine r_iconst (v := 1) rfl dX2_numberOf_25 ?_
        refine r_iand dX2_numberOf_26 ?_
        refine r_nmi (fun zv27 ze27 => ?_)
        refine r_istore (ls2 := [(4, .int zv27), (3, .int (nI i)), (2, .int (numC p f i)), (0, .int p), (1, .int f)]) dX2_numberOf_27 (by decide) rfl ?_
        refine r_iload_n 2 rfl dX2_numberOf_29 ?_
        refine r_iconst (v := 3) rfl dX2_numberOf_30 ?_
        refine r_imul dX2_numberOf_31 ?_
        refine r_iload 0 rfl dX2_numberOf_32 ?_
        refine r_iadd dX2_numberOf_34 ?_
        refine r_nmi (fun zv35 ze35 => ?_)
        refine r_istore_n (ls2 := [(2, .int zv35), (4, .int zv27), (3, .int (nI i)), (0, .int p), (1, .int f)]) dX2_numberOf_35 (by decide) rfl ?_
        refine r_iinc (v := (nI (i + 1))) (ls2 := [(3, .int (nI (i + 1))), (2, .int zv35), (4, .int zv27), (0, .int p), (1, .int f)]) 2 dX2_numberOf_36 rfl (x_inc i) (by decide) rfl ?_
        refine r_goto (tgt := 4) dX2_numberOf_39 (by decide) ?_
        have hb : bitZ f i = decide ((f >>> (nI i &&& 31)) &&& 1 = 0) := rfl
        obtain rfl : zv35 = numC p f (i + 1) := by rw [ze35]; (try rw [ze27]); simp [numC, hb, zh15]
        exact r_sub [0, 1, 3, 4] rfl (ih hlt)
      · refine r_iconst (v := 2) rfl dX2_numberOf_18 ?_
        refine r_goto (tgt := 27) dX2_numberOf_19 (by decide) ?_
        refine r_istore (ls2 := [(4, .int 2), (3, .int (nI i)), (2, .int (numC p f i)), (0, .int p), (1, .int f)]) dX2_numberOf_27 (by decide) rfl ?_
        refine r_iload_n 2 rfl dX2_numberOf_29 ?_
        refine r_iconst (v := 3) rfl dX2_numberOf_30 ?_
        refine r_imul dX2_numberOf_31 ?_
        refine r_iload 0 rfl dX2_numberOf_32 ?_
        refine r_iadd dX2_numberOf_34 ?_
        refine r_nmi (fun zv35 ze35 => ?_)
        refine r_istore_n (ls2 := [(2, .int zv35), (4, .int 2), (3, .int (nI i)), (0, .int p), (1, .int f)]) dX2_numberOf_35 (by decide) rfl ?_
        refine r_iinc (v := (nI (i + 1))) (ls2 := [(3, .int (nI (i + 1))), (2, .int zv35), (4, .int 2), (0, .int p), (1, .int f)]) 2 dX2_numberOf_36 rfl (x_inc i) (by decide) rfl ?_
        refine r_goto (tgt := 4) dX2_numberOf_39 (by decide) ?_
        have hb : bitZ f i = decide ((f >>> (nI i &&& 31)) &&& 1 = 0) := rfl
        obtain rfl : zv35 = numC p f (i + 1) := by rw [ze35]; (try rw [ze27]); simp [numC, hb, zh15]
        exact r_sub [0, 1, 3, 4] rfl (ih hlt)
  refine r_iconst (v := 0) rfl dX2_numberOf_0 ?_
  refine r_istore_n (ls2 := [(2, .int 0), (0, .int p), (1, .int f)]) dX2_numberOf_1 (by decide) rfl ?_
  refine r_iconst (v := 0) rfl dX2_numberOf_2 ?_
  refine r_istore_n (ls2 := [(3, .int 0), (2, .int 0), (0, .int p), (1, .int f)]) dX2_numberOf_3 (by decide) rfl ?_
  exact r_sub [0, 1, 2, 3] rfl (loop 0 (by decide))
set_option maxRecDepth 100000 in
theorem c_X2_pointsLike (hSt : x_St X) {p f : Int32} : Cf X yX2_pointsLike cX2_pointsLike 5 (some .long) 1 [.int p, .int f] n SH MI ML MR (some (.long (ptsL p f 6))) MI ML MR := by
  refine Ct_of (by decide) (Nat.le_of_ble_eq_true rfl) (fun G hG => ?_)
  have loop : ∀ i, i ≤ 6 → RW X G RX2 cX2_pointsLike 5 (x_rm 1 0 0) n SH MI ML MR 0 0 7 [(4, .int (nI i)), (2, .long (ptsL p f i)), (0, .int p), (1, .int f)] [] := by
    refine bwd (fun i hi ih => ?_)
    refine r_iload 0 rfl dX2_pointsLike_7 ?_
    refine r_bipush (v := 6) rfl dX2_pointsLike_9 ?_
    refine r_icmpge (tgt := 60) dX2_pointsLike_11 (by decide) (fun zh11 => ?_) (fun zh11 => ?_)
    · obtain rfl : i = 6 := by have := geL (k := 6) (by decide) (by omega) zh11; omega
      refine r_lload_n 1 rfl dX2_pointsLike_60 ?_
      exact r_lret hG dX2_pointsLike_61 (⟨rfl, rfl, rfl, rfl⟩)
    · have hlt : i < 6 := ltL (by omega) zh11
      refine r_iload_n 3 rfl dX2_pointsLike_14 ?_
      refine r_iload 0 rfl dX2_pointsLike_15 ?_
      refine r_ishr dX2_pointsLike_17 ?_
      refine r_iconst (v := 1) rfl dX2_pointsLike_18 ?_
      refine r_iand dX2_pointsLike_19 ?_
      refine r_ifne (tgt := 54) dX2_pointsLike_20 (by decide) (fun zh20 => ?_) (fun zh20 => ?_)
      · refine r_iinc (v := (nI (i + 1))) (ls2 := [(4, .int (nI (i + 1))), (2, .long (ptsL p f i)), (0, .int p), (1, .int f)]) 0 dX2_pointsLike_54 rfl (x_inc i) (by decide) rfl ?_
        refine r_goto (tgt := 7) dX2_pointsLike_57 (by decide) ?_
        have hb : bitZ f i = decide ((f >>> (nI i &&& 31)) &&& 1 = 0) := rfl
        have hp : bitZ p i = decide ((p >>> (nI i &&& 31)) &&& 1 = 0) := rfl
        first
          | (obtain rfl : zv53 = ptsL p f (i + 1) := by rw [ze53, nI_clamp (by omega)]; simp [ptsL, hb, hp, zh20, zh30]
             exact r_sub [0, 1, 2, 3] rfl (ih hlt))
          | (have e : ptsL p f (i + 1) = ptsL p f i := by simp [ptsL, hb, zh20]
             have q := ih hlt
             rw [e] at q
             exact r_sub [0, 1, 2, 3] rfl q)
      · refine r_lload_n 1 rfl dX2_pointsLike_23 ?_
        refine r_iload_n 2 rfl dX2_pointsLike_24 ?_
        refine r_iload 0 rfl dX2_pointsLike_25 ?_
        refine r_ishr dX2_pointsLike_27 ?_
        refine r_iconst (v := 1) rfl dX2_pointsLike_28 ?_
        refine r_iand dX2_pointsLike_29 ?_
        refine r_ifeq (tgt := 42) dX2_pointsLike_30 (by decide) (fun zh30 => ?_) (fun zh30 => ?_)
        · refine r_gets hSt dX2_pointsLike_42 fs_X2_17 ?_
          refine r_iload 0 rfl dX2_pointsLike_45 ?_
          refine r_stald hSt dX2_pointsLike_47 (vp_in_nI hlt (by decide)) ?_
          refine r_ldc2 kl_X2_15 dX2_pointsLike_48 ?_
          refine r_lxor dX2_pointsLike_51 ?_
          refine r_land dX2_pointsLike_52 ?_
          refine r_nml (fun zv53 ze53 => ?_)
          refine r_lstore_n (ls2 := [(2, .long zv53), (4, .int (nI i)), (0, .int p), (1, .int f)]) dX2_pointsLike_53 (by decide) rfl ?_
          refine r_iinc (v := (nI (i + 1))) (ls2 := [(4, .int (nI (i + 1))), (2, .long zv53), (0, .int p), (1, .int f)]) 1 dX2_pointsLike_54 rfl (x_inc i) (by decide) rfl ?_
          refine r_goto (tgt := 7) dX2_pointsLike_57 (by decide) ?_
          have hb : bitZ f i = decide ((f >>> (nI i &&& 31)) &&& 1 = 0) := rfl
          have hp : bitZ p i = decide ((p >>> (nI i &&& 31)) &&& 1 = 0) := rfl
          first
            | (obtain rfl : zv53 = ptsL p f (i + 1) := by rw [ze53, nI_clamp (by omega)]; simp [ptsL, hb, hp, zh20, zh30]
               exact r_sub [0, 1, 2, 3] rfl (ih hlt))
            | (have e : ptsL p f (i + 1) = ptsL p f i := by simp [ptsL, hb, zh20]
               have q := ih hlt
               rw [e] at q
               exact r_sub [0, 1, 2, 3] rfl q)
        · refine r_gets hSt dX2_pointsLike_33 fs_X2_17 ?_
          refine r_iload 0 rfl dX2_pointsLike_36 ?_
          refine r_stald hSt dX2_pointsLike_38 (vp_in_nI hlt (by decide)) ?_
          refine r_goto (tgt := 52) dX2_pointsLike_39 (by decide) ?_
          refine r_land dX2_pointsLike_52 ?_
          refine r_nml (fun zv53 ze53 => ?_)
          refine r_lstore_n (ls2 := [(2, .long zv53), (4, .int (nI i)), (0, .int p), (1, .int f)]) dX2_pointsLike_53 (by decide) rfl ?_
          refine r_iinc (v := (nI (i + 1))) (ls2 := [(4, .int (nI (i + 1))), (2, .long zv53), (0, .int p), (1, .int f)]) 1 dX2_pointsLike_54 rfl (x_inc i) (by decide) rfl ?_
          refine r_goto (tgt := 7) dX2_pointsLike_57 (by decide) ?_
          have hb : bitZ f i = decide ((f >>> (nI i &&& 31)) &&& 1 = 0) := rfl
          have hp : bitZ p i = decide ((p >>> (nI i &&& 31)) &&& 1 = 0) := rfl
          first
            | (obtain rfl : zv53 = ptsL p f (i + 1) := by rw [ze53, nI_clamp (by omega)]; simp [ptsL, hb, hp, zh20, zh30]
               exact r_sub [0, 1, 2, 3] rfl (ih hlt))
            | (have e : ptsL p f (i + 1) = ptsL p f i := by simp [ptsL, hb, zh20]
               have q := ih hlt
               rw [e] at q
               exact r_sub [0, 1, 2, 3] rfl q)
  refine r_ldc2 kl_X2_15 dX2_pointsLike_0 ?_
  refine r_lstore_n (ls2 := [(2, .long (-1)), (0, .int p), (1, .int f)]) dX2_pointsLike_3 (by decide) rfl ?_
  refine r_iconst (v := 0) rfl dX2_pointsLike_4 ?_
  refine r_istore (ls2 := [(4, .int 0), (2, .long (-1)), (0, .int p), (1, .int f)]) dX2_pointsLike_5 (by decide) rfl ?_
  exact r_sub [0, 1, 2, 3] rfl (loop 0 (by decide))
set_option maxRecDepth 100000 in
theorem c_X2_digitOf {c : Int32} {k : Nat} (hk : k < 6) : Cf X yX2_digitOf cX2_digitOf 4 (some .int) 1 [.int c, .int (nI k)] n SH MI ML MR (some (.int (divN c (5 - k) - divN c (5 - k) / 3 * 3))) MI ML MR := by
  refine Ct_of (by decide) (Nat.le_of_ble_eq_true rfl) (fun G hG => ?_)
  have loop : ∀ i, i ≤ 5 - k → RW X G RX2 cX2_digitOf 4 (x_rm 1 0 0) n SH MI ML MR 0 0 4 [(3, .int (nI (5 - i))), (2, .int (divN c i)), (0, .int c), (1, .int (nI k))] [] := by
    refine bwd (fun i hi ih => ?_)
    refine r_iload_n 0 rfl dX2_digitOf_4 ?_
    refine r_iload_n 3 rfl dX2_digitOf_5 ?_
    refine r_icmple (tgt := 19) dX2_digitOf_6 (by decide) (fun zh6 => ?_) (fun zh6 => ?_)
    · obtain rfl : i = 5 - k := by have := geL (k := 5 - i) (i := k) (by omega) (by omega) zh6; omega
      refine r_iload_n 1 rfl dX2_digitOf_19 ?_
      refine r_iconst (v := 3) rfl dX2_digitOf_20 ?_
      refine r_irem (by decide) dX2_digitOf_21 ?_
      exact r_iret hG dX2_digitOf_22 (⟨rfl, rfl, rfl, rfl⟩)
    · have hlt : i < 5 - k := by
        rcases Nat.lt_or_ge i (5 - k) with q | q
        · exact q
        · exact absurd (nI_le (show 5 - i ≤ k by omega) (by omega)) zh6
      refine r_iload_n 1 rfl dX2_digitOf_9 ?_
      refine r_iconst (v := 3) rfl dX2_digitOf_10 ?_
      refine r_idiv (by decide) dX2_digitOf_11 ?_
      refine r_nmi (fun zv12 ze12 => ?_)
      refine r_istore_n (ls2 := [(2, .int zv12), (3, .int (nI (5 - i))), (0, .int c), (1, .int (nI k))]) dX2_digitOf_12 (by decide) rfl ?_
      refine r_iinc (v := (nI (5 - (i + 1)))) (ls2 := [(3, .int (nI (5 - (i + 1)))), (2, .int zv12), (0, .int c), (1, .int (nI k))]) 1 dX2_digitOf_13 rfl (by have h := x_dec (5 - (i + 1)); rw [show 5 - (i + 1) + 1 = 5 - i by omega] at h; exact h) (by decide) rfl ?_
      refine r_goto (tgt := 4) dX2_digitOf_16 (by decide) ?_
      obtain rfl : zv12 = divN c (i + 1) := by rw [ze12]; rfl
      exact r_sub [0, 1, 2, 3] rfl (ih hlt)
  refine r_iload_n 0 rfl dX2_digitOf_0 ?_
  refine r_istore_n (ls2 := [(2, .int c), (0, .int c), (1, .int (nI k))]) dX2_digitOf_1 (by decide) rfl ?_
  refine r_iconst (v := 5) rfl dX2_digitOf_2 ?_
  refine r_istore_n (ls2 := [(3, .int 5), (2, .int c), (0, .int c), (1, .int (nI k))]) dX2_digitOf_3 (by decide) rfl ?_
  exact r_sub [0, 1, 2, 3] rfl (loop 0 (by omega))
end cub

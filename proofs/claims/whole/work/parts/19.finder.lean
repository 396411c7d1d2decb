/-! Finder: 86; holds 87, rarest 88; primeCount 86 1, requiredCount 86 2. H the row of holds -/
def heldV (H : Nat → Int64) (x : Int32) : Int64 := if inR x 240 = true then H x.toNatClampNeg else 0
theorem heldV_nI {H : Nat → Int64} {i : Nat} (h : i < 240) : heldV H (nI i) = H i := by
  unfold heldV
  have h2 : inR (nI i) 240 = true := inR_nI (N := 240) h (by decide)
  rw [if_pos h2, nI_clamp (by omega)]
def cntH (H : Nat → Int64) (b : Int64) : Nat → Nat
  | 0 => 0
  | k + 1 => cntH H b k + (if H k &&& b = 0 then 0 else 1)
theorem cntH_le (H : Nat → Int64) (b : Int64) : ∀ k, cntH H b k ≤ k
  | 0 => Nat.le_refl _
  | k + 1 => by have := cntH_le H b k; unfold cntH; split <;> omega
def bitL (i : Nat) : Int64 := (1 : Int64) <<< ((nI i).toInt64 &&& 63)
def aloneL (H : Nat → Int64) (np : Nat) : Nat → Int64
  | 0 => 0
  | k + 1 => if cntH H (bitL k) np = 1 then aloneL H np k ||| bitL k else aloneL H np k
def lackO (H : Nat → Int64) (np nr : Nat) : Option Nat := (List.range nr).find? (fun i => decide (cntH H (bitL i) np = 0))
def opt2 (q : Option Nat) : Int32 := match q with
  | some i => nI i
  | none => -2
section finder
variable {X : xG} {n : Nat} {MI : Nat → Nat → Int32} {ML : Nat → Nat → Int64} {MR : Nat → Nat → Option Nat}
set_option maxRecDepth 100000 in
theorem c_X4_forget {x : Int32} : Cf X yX4_forget cX4_forget 2 none 1 [.ref 86, .int x] n SH MI ML MR none (u2 (u2 MI 86 2 x) 86 1 0) ML MR := by
  refine Ct_of (by decide) (Nat.le_of_ble_eq_true rfl) (fun G hG => ?_)
  refine r_aload_n 0 rfl dX4_forget_0 ?_
  refine r_iload_n 1 rfl dX4_forget_1 ?_
  refine r_puti dX4_forget_2 fl_X4_20 rfl rfl rfl ?_
  refine r_aload_n 0 rfl dX4_forget_5 ?_
  refine r_iconst (v := 0) rfl dX4_forget_6 ?_
  refine r_puti dX4_forget_7 fl_X4_24 rfl rfl rfl ?_
  exact r_vret hG dX4_forget_10 (⟨rfl, rfl, rfl, rfl⟩)
set_option maxRecDepth 100000 in
theorem c_X4_heldBy (hM : x_Lay MR) {x : Int32} : Cf X yX4_heldBy cX4_heldBy 2 (some .long) 1 [.ref 86, .int x] n SH MI ML MR (some (.long (heldV (ML 87) x))) MI ML MR := by
  refine Ct_of (by decide) (Nat.le_of_ble_eq_true rfl) (fun G hG => ?_)
  refine r_iload_n 1 rfl dX4_heldBy_0 ?_
  refine r_iflt (tgt := 20) dX4_heldBy_1 (by decide) (fun zh1 => ?_) (fun zh1 => ?_)
  · refine r_lconst (v := 0) rfl dX4_heldBy_20 ?_
    exact r_lret hG dX4_heldBy_21 (⟨by simp_all [inR, heldV], rfl, rfl, rfl⟩)
  · refine r_iload_n 1 rfl dX4_heldBy_4 ?_
    refine r_sipush (v := 240) rfl dX4_heldBy_5 ?_
    refine r_icmpge (tgt := 20) dX4_heldBy_8 (by decide) (fun zh8 => ?_) (fun zh8 => ?_)
    · refine r_lconst (v := 0) rfl dX4_heldBy_20 ?_
      exact r_lret hG dX4_heldBy_21 (⟨by simp_all [inR, heldV], rfl, rfl, rfl⟩)
    · refine r_aload_n 0 rfl dX4_heldBy_11 ?_
      refine r_getr dX4_heldBy_12 fl_X4_11 rfl (hM _ _ _ rfl) ?_
      refine r_iload_n 1 rfl dX4_heldBy_15 ?_
      refine r_lald dX4_heldBy_16 rfl (vpin_of (N := 240) (by decide) zh1 zh8) ?_
      refine r_goto (tgt := 21) dX4_heldBy_17 (by decide) ?_
      exact r_lret hG dX4_heldBy_21 (⟨by simp_all [inR, heldV], rfl, rfl, rfl⟩)
set_option maxRecDepth 100000 in
theorem c_X4_take (hM : x_Lay MR) {x : Int64} {k : Nat} (hk : k < 240) (hp : MI 86 1 = nI k) : Cf X yX4_take cX4_take 3 none 1 [.ref 86, .long x] n SH MI ML MR none (u2 MI 86 1 (nI (k + 1))) (u2 ML 87 k x) MR := by
  refine Ct_of (by decide) (Nat.le_of_ble_eq_true rfl) (fun G hG => ?_)
  refine r_aload_n 0 rfl dX4_take_0 ?_
  refine r_geti dX4_take_1 fl_X4_24 rfl ?_
  refine r_iflt (tgt := 37) dX4_take_4 (by decide) (fun zh4 => ?_) (fun zh4 => ?_)
  · exact absurd zh4 (by rw [hp]; exact nI_pos (by omega))
  refine r_aload_n 0 rfl dX4_take_7 ?_
  refine r_geti dX4_take_8 fl_X4_24 rfl ?_
  refine r_sipush (v := 240) rfl dX4_take_11 ?_
  refine r_icmpge (tgt := 37) dX4_take_14 (by decide) (fun zh14 => ?_) (fun zh14 => ?_)
  · exact absurd zh14 (fun q => absurd (geL (k := 240) (i := k) (by decide) (by omega) (hp ▸ q)) (by omega))
  refine r_aload_n 0 rfl dX4_take_17 ?_
  refine r_getr dX4_take_18 fl_X4_11 rfl (hM _ _ _ rfl) ?_
  refine r_aload_n 0 rfl dX4_take_21 ?_
  refine r_geti dX4_take_22 fl_X4_24 rfl ?_
  refine r_lload_n 1 rfl dX4_take_25 ?_
  refine r_last dX4_take_26 rfl (by rw [hp]; exact vp_in_nI hk (by decide)) ?_
  refine r_aload_n 0 rfl dX4_take_27 ?_
  refine r_dup rfl dX4_take_28 ?_
  refine r_geti dX4_take_29 fl_X4_24 rfl ?_
  refine r_iconst (v := 1) rfl dX4_take_32 ?_
  refine r_iadd dX4_take_33 ?_
  refine r_puti dX4_take_34 fl_X4_24 rfl rfl rfl ?_
  exact r_vret hG dX4_take_37 (⟨rfl, by rw [hp, nI_1], by rw [hp, nI_clamp (by omega)], rfl⟩)
set_option maxRecDepth 100000 in
theorem c_X4_holdersOf (hM : x_Lay MR) {b : Int64} {np : Nat} (hn : np ≤ 240) (hp : MI 86 1 = nI np) : Cf X yX4_holdersOf cX4_holdersOf 5 (some .int) 2 [.ref 86, .long b] n SH MI ML MR (some (.int (nI (cntH (ML 87) b np)))) MI ML MR := by
  refine Ct_of (by decide) (Nat.le_of_ble_eq_true rfl) (fun G hG => ?_)
  have loop : ∀ i, i ≤ np → RW X G RX4 cX4_holdersOf 5 (x_rm 2 0 0) n SH MI ML MR 0 0 5 [(4, .int (nI i)), (3, .int (nI (cntH (ML 87) b i))), (0, .ref 86), (1, .long b)] [] := by
    refine bwd (fun i hi ih => ?_)
    refine r_iload 0 rfl dX4_holdersOf_5 ?_
    refine r_aload_n 2 rfl dX4_holdersOf_7 ?_
    refine r_geti dX4_holdersOf_8 fl_X4_24 rfl ?_
    refine r_icmpge (tgt := 36) dX4_holdersOf_11 (by decide) (fun zh11 => ?_) (fun zh11 => ?_)
    · rw [hp] at zh11
      obtain rfl : i = np := by have := geL (k := np) (by omega) (by omega) zh11; omega
      refine r_iload_n 1 rfl dX4_holdersOf_36 ?_
      exact r_iret hG dX4_holdersOf_37 (⟨rfl, rfl, rfl, rfl⟩)
    · rw [hp] at zh11
      have hlt : i < np := ltL (by omega) zh11
      refine r_aload_n 2 rfl dX4_holdersOf_14 ?_
      refine r_iload 0 rfl dX4_holdersOf_15 ?_
      refine r_Vf [.int _] dX4_holdersOf_17 lk_X4_27 mb_X4_heldBy in_X4_heldBy se_X4_heldBy rfl (c_X4_heldBy hM) rfl rfl rfl (Nat.le_of_ble_eq_true rfl) (rfl) ?_
      refine r_lload_n 3 rfl dX4_holdersOf_20 ?_
      refine r_land dX4_holdersOf_21 ?_
      refine r_lconst (v := 0) rfl dX4_holdersOf_22 ?_
      refine r_lcmp dX4_holdersOf_23 ?_
      refine r_ifeq (tgt := 30) dX4_holdersOf_24 (by decide) (fun zh24 => ?_) (fun zh24 => ?_)
      · try rw [lcmp_eq, heldV_nI (by omega)] at zh24
        refine r_iinc (v := (nI (i + 1))) (ls2 := [(4, .int (nI (i + 1))), (3, .int (nI (cntH (ML 87) b i))), (0, .ref 86), (1, .long b)]) 0 dX4_holdersOf_30 rfl (x_inc i) (by decide) rfl ?_
        refine r_goto (tgt := 5) dX4_holdersOf_33 (by decide) ?_
        first
          | (have q := ih hlt; rw [show cntH (ML 87) b (i + 1) = cntH (ML 87) b i + 1 from by rw [cntH, if_neg zh24]] at q; exact r_sub [0, 1, 2, 3] rfl q)
          | (have q := ih hlt; rw [show cntH (ML 87) b (i + 1) = cntH (ML 87) b i from by rw [cntH, if_pos zh24]; rfl] at q; exact r_sub [0, 1, 2, 3] rfl q)
      · rw [lcmp_eq, heldV_nI (by omega)] at zh24
        refine r_iinc (v := (nI (cntH (ML 87) b i + 1))) (ls2 := [(3, .int (nI (cntH (ML 87) b i + 1))), (4, .int (nI i)), (0, .ref 86), (1, .long b)]) 1 dX4_holdersOf_27 rfl (x_inc _) (by decide) rfl ?_
        try rw [lcmp_eq, heldV_nI (by omega)] at zh24
        refine r_iinc (v := (nI (i + 1))) (ls2 := [(4, .int (nI (i + 1))), (3, .int (nI (cntH (ML 87) b i + 1))), (0, .ref 86), (1, .long b)]) 1 dX4_holdersOf_30 rfl (x_inc i) (by decide) rfl ?_
        refine r_goto (tgt := 5) dX4_holdersOf_33 (by decide) ?_
        first
          | (have q := ih hlt; rw [show cntH (ML 87) b (i + 1) = cntH (ML 87) b i + 1 from by rw [cntH, if_neg zh24]] at q; exact r_sub [0, 1, 2, 3] rfl q)
          | (have q := ih hlt; rw [show cntH (ML 87) b (i + 1) = cntH (ML 87) b i from by rw [cntH, if_pos zh24]; rfl] at q; exact r_sub [0, 1, 2, 3] rfl q)
  refine r_iconst (v := 0) rfl dX4_holdersOf_0 ?_
  refine r_istore_n (ls2 := [(3, .int 0), (0, .ref 86), (1, .long b)]) dX4_holdersOf_1 (by decide) rfl ?_
  refine r_iconst (v := 0) rfl dX4_holdersOf_2 ?_
  refine r_istore (ls2 := [(4, .int 0), (3, .int 0), (0, .ref 86), (1, .long b)]) dX4_holdersOf_3 (by decide) rfl ?_
  exact r_sub [0, 1, 2, 3] rfl (loop 0 (by omega))
set_option maxRecDepth 100000 in
theorem c_X4_countNeeded (hM : x_Lay MR) {np nr : Nat} (hn : np ≤ 240) (hp : MI 86 1 = nI np) (hr : nr ≤ 33) (hq : MI 86 2 = nI nr) : Cf X yX4_countNeeded cX4_countNeeded 4 (some .int) 3 [.ref 86] n SH MI ML MR (some (.int (nI (cntH (ML 87) (aloneL (ML 87) np nr) np)))) MI ML MR := by
  refine Ct_of (by decide) (Nat.le_of_ble_eq_true rfl) (fun G hG => ?_)
  have loop : ∀ i, i ≤ nr → RW X G RX4 cX4_countNeeded 4 (x_rm 3 0 0) n SH MI ML MR 0 0 4 [(3, .int (nI i)), (1, .long (aloneL (ML 87) np i)), (0, .ref 86)] [] := by
    refine bwd (fun i hi ih => ?_)
    have hc1 := nI_eq (a := cntH (ML 87) (bitL i) np) (b := 1) (by have := cntH_le (ML 87) (bitL i) np; omega) (by decide)
    refine r_iload_n 0 rfl dX4_countNeeded_4 ?_
    refine r_aload_n 2 rfl dX4_countNeeded_5 ?_
    refine r_geti dX4_countNeeded_6 fl_X4_20 rfl ?_
    refine r_icmpge (tgt := 35) dX4_countNeeded_9 (by decide) (fun zh9 => ?_) (fun zh9 => ?_)
    · rw [hq] at zh9
      obtain rfl : i = nr := by have := geL (k := nr) (by omega) (by omega) zh9; omega
      refine r_aload_n 2 rfl dX4_countNeeded_35 ?_
      refine r_lload_n 1 rfl dX4_countNeeded_36 ?_
      refine r_Vf [.long _] dX4_countNeeded_37 lk_X4_31 mb_X4_holdersOf in_X4_holdersOf se_X4_holdersOf rfl (c_X4_holdersOf hM hn hp) rfl rfl rfl (Nat.le_of_ble_eq_true rfl) (rfl) ?_
      exact r_iret hG dX4_countNeeded_40 (⟨rfl, rfl, rfl, rfl⟩)
    · rw [hq] at zh9
      have hlt : i < nr := ltL (by omega) zh9
      refine r_aload_n 2 rfl dX4_countNeeded_12 ?_
      refine r_lconst (v := 1) rfl dX4_countNeeded_13 ?_
      refine r_iload_n 0 rfl dX4_countNeeded_14 ?_
      refine r_lshl dX4_countNeeded_15 ?_
      refine r_Vf [.long _] dX4_countNeeded_16 lk_X4_31 mb_X4_holdersOf in_X4_holdersOf se_X4_holdersOf rfl (c_X4_holdersOf hM hn hp) rfl rfl rfl (Nat.le_of_ble_eq_true rfl) (rfl) ?_
      refine r_iconst (v := 1) rfl dX4_countNeeded_19 ?_
      refine r_icmpne (tgt := 29) dX4_countNeeded_20 (by decide) (fun zh20 => ?_) (fun zh20 => ?_)
      · refine r_iinc (v := (nI (i + 1))) (ls2 := [(3, .int (nI (i + 1))), (1, .long (aloneL (ML 87) np i)), (0, .ref 86)]) 0 dX4_countNeeded_29 rfl (x_inc i) (by decide) rfl ?_
        refine r_goto (tgt := 4) dX4_countNeeded_32 (by decide) ?_
        have q := ih hlt
        first
          | (rw [show aloneL (ML 87) np (i + 1) = aloneL (ML 87) np i ||| bitL i from if_pos (hc1.mp zh20)] at q; obtain rfl : zv28 = aloneL (ML 87) np i ||| bitL i := ze28; exact r_sub [0, 1, 2] rfl q)
          | (rw [show aloneL (ML 87) np (i + 1) = aloneL (ML 87) np i from if_neg (fun h => zh20 (hc1.mpr h))] at q; exact r_sub [0, 1, 2] rfl q)
      · refine r_lload_n 1 rfl dX4_countNeeded_23 ?_
        refine r_lconst (v := 1) rfl dX4_countNeeded_24 ?_
        refine r_iload_n 0 rfl dX4_countNeeded_25 ?_
        refine r_lshl dX4_countNeeded_26 ?_
        refine r_lor dX4_countNeeded_27 ?_
        refine r_nml (fun zv28 ze28 => ?_)
        refine r_lstore_n (ls2 := [(1, .long zv28), (3, .int (nI i)), (0, .ref 86)]) dX4_countNeeded_28 (by decide) rfl ?_
        refine r_iinc (v := (nI (i + 1))) (ls2 := [(3, .int (nI (i + 1))), (1, .long zv28), (0, .ref 86)]) 1 dX4_countNeeded_29 rfl (x_inc i) (by decide) rfl ?_
        refine r_goto (tgt := 4) dX4_countNeeded_32 (by decide) ?_
        have q := ih hlt
        first
          | (rw [show aloneL (ML 87) np (i + 1) = aloneL (ML 87) np i ||| bitL i from if_pos (hc1.mp zh20)] at q; obtain rfl : zv28 = aloneL (ML 87) np i ||| bitL i := ze28; exact r_sub [0, 1, 2] rfl q)
          | (rw [show aloneL (ML 87) np (i + 1) = aloneL (ML 87) np i from if_neg (fun h => zh20 (hc1.mpr h))] at q; exact r_sub [0, 1, 2] rfl q)
  refine r_lconst (v := 0) rfl dX4_countNeeded_0 ?_
  refine r_lstore_n (ls2 := [(1, .long 0), (0, .ref 86)]) dX4_countNeeded_1 (by decide) rfl ?_
  refine r_iconst (v := 0) rfl dX4_countNeeded_2 ?_
  refine r_istore_n (ls2 := [(3, .int 0), (1, .long 0), (0, .ref 86)]) dX4_countNeeded_3 (by decide) rfl ?_
  exact r_sub [0, 1, 2] rfl (loop 0 (by omega))
set_option maxRecDepth 100000 in
theorem c_X4_firstLacking (hM : x_Lay MR) {np nr : Nat} (hn : np ≤ 240) (hp : MI 86 1 = nI np) (hr : nr ≤ 33) (hq : MI 86 2 = nI nr) : Cf X yX4_firstLacking cX4_firstLacking 2 (some .int) 3 [.ref 86] n SH MI ML MR (some (.int (opt2 (lackO (ML 87) np nr)))) MI ML MR := by
  refine Ct_of (by decide) (Nat.le_of_ble_eq_true rfl) (fun G hG => ?_)
  have loop : ∀ i, i ≤ nr → (∀ k, k < i → decide (cntH (ML 87) (bitL k) np = 0) = false) → RW X G RX4 cX4_firstLacking 2 (x_rm 3 0 0) n SH MI ML MR 0 0 2 [(1, .int (nI i)), (0, .ref 86)] [] := by
    refine bwd (fun i hi ih hk => ?_)
    have hc0 := nI_eq (a := cntH (ML 87) (bitL i) np) (b := 0) (by have := cntH_le (ML 87) (bitL i) np; omega) (by decide)
    have hnone : i = nr → lackO (ML 87) np nr = none := fun e => by
      unfold lackO
      rw [List.find?_eq_none]
      intro k hk2
      rw [hk k (by rw [e]; exact List.mem_range.mp hk2)]
      decide
    have hsome : i < nr → decide (cntH (ML 87) (bitL i) np = 0) = true → lackO (ML 87) np nr = some i := fun hlt hb => by
      unfold lackO
      rw [List.find?_range_eq_some]
      exact ⟨hb, List.mem_range.mpr hlt, fun k hk2 => by rw [hk k hk2]; rfl⟩
    have hstep : decide (cntH (ML 87) (bitL i) np = 0) = false → ∀ k, k < i + 1 → decide (cntH (ML 87) (bitL k) np = 0) = false := fun hb k hk2 => by
      rcases Nat.lt_or_ge k i with q | q
      · exact hk k q
      · obtain rfl : k = i := by omega
        exact hb
    refine r_iload_n 0 rfl dX4_firstLacking_2 ?_
    refine r_aload_n 1 rfl dX4_firstLacking_3 ?_
    refine r_geti dX4_firstLacking_4 fl_X4_20 rfl ?_
    refine r_icmpge (tgt := 28) dX4_firstLacking_7 (by decide) (fun zh7 => ?_) (fun zh7 => ?_)
    · rw [hq] at zh7
      obtain rfl : i = nr := by have := geL (k := nr) (by omega) (by omega) zh7; omega
      refine r_bipush (v := (-2)) rfl dX4_firstLacking_28 ?_
      exact r_iret hG dX4_firstLacking_30 (⟨by rw [hnone rfl]; rfl, rfl, rfl, rfl⟩)
    · rw [hq] at zh7
      have hlt : i < nr := ltL (by omega) zh7
      refine r_aload_n 1 rfl dX4_firstLacking_10 ?_
      refine r_lconst (v := 1) rfl dX4_firstLacking_11 ?_
      refine r_iload_n 0 rfl dX4_firstLacking_12 ?_
      refine r_lshl dX4_firstLacking_13 ?_
      refine r_Vf [.long _] dX4_firstLacking_14 lk_X4_31 mb_X4_holdersOf in_X4_holdersOf se_X4_holdersOf rfl (c_X4_holdersOf hM hn hp) rfl rfl rfl (Nat.le_of_ble_eq_true rfl) (rfl) ?_
      refine r_ifne (tgt := 22) dX4_firstLacking_17 (by decide) (fun zh17 => ?_) (fun zh17 => ?_)
      · refine r_iinc (v := (nI (i + 1))) (ls2 := [(1, .int (nI (i + 1))), (0, .ref 86)]) 0 dX4_firstLacking_22 rfl (x_inc i) (by decide) rfl ?_
        refine r_goto (tgt := 2) dX4_firstLacking_25 (by decide) ?_
        exact ih hlt (hstep (decide_eq_false (fun h => zh17 (hc0.mpr h))))
      · refine r_iload_n 0 rfl dX4_firstLacking_20 ?_
        exact r_iret hG dX4_firstLacking_21 (⟨by rw [hsome hlt (decide_eq_true (hc0.mp zh17))]; rfl, rfl, rfl, rfl⟩)
  refine r_iconst (v := 0) rfl dX4_firstLacking_0 ?_
  refine r_istore_n (ls2 := [(1, .int 0), (0, .ref 86)]) dX4_firstLacking_1 (by decide) rfl ?_
  exact loop 0 (by omega) (fun k hk => absurd hk (Nat.not_lt_zero k))
end finder

/-! switches over 0 .. N - 1 -/
theorem tsw (N : Nat) (x : Int32) : (x.toInt < 0 ∨ (N : Int) - 1 < x.toInt) ∨ ∃ k, k < N ∧ x = nI k := by
  by_cases h : x < 0
  · left; left
    exact Int32.lt_iff_toInt_lt.mp h
  · obtain ⟨j, hj, rfl⟩ := nI_of h
    by_cases h2 : j < N
    · exact Or.inr ⟨j, h2, rfl⟩
    · left; right
      rw [nI_toInt hj]
      omega
section RWsw
variable {X : xG} {G : xM} {own : String} {cc : ByteArray} {nL : Nat} {R : Room} {n : Nat} {sh : List (Nat × Nat)} {MI : Nat → Nat → Int32} {ML : Nat → Nat → Int64} {MR : Nat → Nat → Option Nat} {cells slots pc : Nat} {ls : List (Nat × Value)} {st : List Value}
theorem r_tswO {dflt hi : Int} {offs : Array Int} {len tgt : Nat} {x : Int32} (hd : decode cc pc = .ok (.tableswitch dflt 0 hi offs, len)) (h : x.toInt < 0 ∨ hi < x.toInt) (ht : (pc : Int) + dflt = (tgt : Int)) (k : RW X G own cc nL R n sh MI ML MR cells slots tgt ls st) : RW X G own cc nL R n sh MI ML MR cells slots pc ls (.int x :: st) := by
  obtain ⟨p, e, s, m, args, below, meth, c, rt, mn, Q⟩ := G
  intro O H locs la hP hL hS hl hn
  exact lv_tableOut O.1 O.2.1 hd h ht (k O H locs la hP hL hS hl hn)
theorem r_tswI {dflt hi off : Int} {offs : Array Int} {len tgt k : Nat} {x : Int32} (hd : decode cc pc = .ok (.tableswitch dflt 0 hi offs, len)) (hx : x = nI k) (h2 : ¬ hi < (k : Int)) (hk : k < 2 ^ 31) (ho : offs[k]? = some off) (ht : (pc : Int) + off = (tgt : Int)) (kk : RW X G own cc nL R n sh MI ML MR cells slots tgt ls st) : RW X G own cc nL R n sh MI ML MR cells slots pc ls (.int x :: st) := by
  obtain ⟨p, e, s, m, args, below, meth, c, rt, mn, Q⟩ := G
  intro O H locs la hP hL hS hl hn
  subst hx
  exact lv_tableIn O.1 O.2.1 hd (by rw [nI_toInt hk]; omega) (by rw [nI_toInt hk]; exact h2) (by rw [nI_toInt hk]; simpa using ho) ht (kk O H locs la hP hL hS hl hn)
end RWsw
/-! the tape -/
def shV (k : Nat) : Int32 := 24 - 8 * nI k
def pbV (x : Int32) (k : Nat) : Int32 := vp_nar .byte (x.toUInt32 >>> ((shV k).toUInt32 &&& Int32.toUInt32 31)).toInt32.toInt8.toInt32
def ptM (MI : Nat → Nat → Int32) (x : Int32) (u k : Nat) : Nat → Nat → Int32 := fun b j => if b = 15 ∧ u ≤ j ∧ j < u + k then pbV x (j - u) else if b = 14 ∧ j = 1 then nI (u + k) else MI b j
theorem shV_s : ∀ k, k < 4 → shV k + Int32.ofInt (-8) = shV (k + 1) ∧ ¬ shV k < 0 := by decide
section desk
variable {X : xG} {n : Nat} {MI : Nat → Nat → Int32} {ML : Nat → Nat → Int64} {MR : Nat → Nat → Option Nat}
set_option maxRecDepth 100000 in
theorem c_X6_hasRoom {u : Nat} (hu : u ≤ 600) (hr : MI 14 1 = nI u) : Cf X yX6_hasRoom cX6_hasRoom 1 (some .boolean) 1 [.ref 14] n SH MI ML MR (some (.int (if u + 20 ≤ 600 then 1 else 0))) MI ML MR := by
  have e : MI 14 1 + 20 = nI (u + 20) := by rw [hr]; exact nI_add u 20
  refine Ct_of (by decide) (Nat.le_of_ble_eq_true rfl) (fun G hG => ?_)
  refine r_aload_n 0 rfl dX6_hasRoom_0 ?_
  refine r_geti dX6_hasRoom_1 fl_X6_22 rfl ?_
  refine r_bipush (v := 20) rfl dX6_hasRoom_4 ?_
  refine r_iadd dX6_hasRoom_6 ?_
  refine r_sipush (v := 600) rfl dX6_hasRoom_7 ?_
  refine r_icmpgt (tgt := 17) dX6_hasRoom_10 (by decide) (fun zh10 => ?_) (fun zh10 => ?_)
  · refine r_iconst (v := 0) rfl dX6_hasRoom_17 ?_
    exact r_zret hG dX6_hasRoom_18 (rfl) (⟨by rw [e] at zh10; first | (rw [if_neg (fun q => absurd ((nI_ltI (a := 600) (by decide) (by omega)).mp zh10) (by omega))]; done) | (rw [if_pos (Nat.not_lt.mp fun q => zh10 (nI_lt (a := 600) q (by omega)))]; done), rfl, rfl, rfl⟩)
  · refine r_iconst (v := 1) rfl dX6_hasRoom_13 ?_
    refine r_goto (tgt := 18) dX6_hasRoom_14 (by decide) ?_
    exact r_zret hG dX6_hasRoom_18 (rfl) (⟨by rw [e] at zh10; first | (rw [if_neg (fun q => absurd ((nI_ltI (a := 600) (by decide) (by omega)).mp zh10) (by omega))]; done) | (rw [if_pos (Nat.not_lt.mp fun q => zh10 (nI_lt (a := 600) q (by omega)))]; done), rfl, rfl, rfl⟩)
set_option maxRecDepth 100000 in
theorem c_X6_put (hM : x_Lay MR) {u : Nat} (hu : u + 4 ≤ 600) (hr : MI 14 1 = nI u) {x : Int32} : Cf X yX6_put cX6_put 3 none 1 [.ref 14, .int x] n SH MI ML MR none (ptM MI x u 4) ML MR := by
  refine Ct_of (by decide) (Nat.le_of_ble_eq_true rfl) (fun G hG => ?_)
  have loop : ∀ k, k ≤ 4 → RW X G RX6 cX6_put 3 (x_rm 1 0 0) n SH (ptM MI x u k) ML MR 0 0 3 [(2, .int (shV k)), (0, .ref 14), (1, .int x)] [] := by
    refine bwd (fun k hk ih => ?_)
    have hus : ptM MI x u k 14 1 = nI (u + k) := rfl
    refine r_iload_n 0 rfl dX6_put_3 ?_
    refine r_iflt (tgt := 53) dX6_put_4 (by decide) (fun zh4 => ?_) (fun zh4 => ?_)
    · obtain rfl : k = 4 := by
        rcases Nat.lt_or_ge k 4 with q | q
        · exact absurd zh4 (shV_s k q).2
        · omega
      exact r_vret hG dX6_put_53 (⟨rfl, rfl, rfl, rfl⟩)
    · have hlt : k < 4 := by
        rcases Nat.lt_or_ge k 4 with q | q
        · exact q
        · obtain rfl : k = 4 := by omega
          exact absurd (by decide) zh4
      refine r_aload_n 1 rfl dX6_put_7 ?_
      refine r_geti dX6_put_8 fl_X6_22 rfl ?_
      refine r_iflt (tgt := 47) dX6_put_11 (by decide) (fun zh11 => ?_) (fun zh11 => ?_)
      · exact absurd zh11 (by rw [hus]; exact nI_pos (by omega))
      refine r_aload_n 1 rfl dX6_put_14 ?_
      refine r_geti dX6_put_15 fl_X6_22 rfl ?_
      refine r_sipush (v := 600) rfl dX6_put_18 ?_
      refine r_icmpge (tgt := 47) dX6_put_21 (by decide) (fun zh21 => ?_) (fun zh21 => ?_)
      · exact absurd zh21 (fun q => by rw [hus] at q; exact absurd (geL (k := 600) (by decide) (by omega) q) (by omega))
      refine r_aload_n 1 rfl dX6_put_24 ?_
      refine r_getr dX6_put_25 fl_X6_11 rfl (hM _ _ _ rfl) ?_
      refine r_aload_n 1 rfl dX6_put_28 ?_
      refine r_geti dX6_put_29 fl_X6_22 rfl ?_
      refine r_iload_n 2 rfl dX6_put_32 ?_
      refine r_iload_n 0 rfl dX6_put_33 ?_
      refine r_iushr dX6_put_34 ?_
      refine r_i2b dX6_put_35 ?_
      refine r_bast dX6_put_36 rfl (by rw [hus]; exact vp_in_nI (show u + k < 600 by omega) (by decide)) ?_
      refine r_aload_n 1 rfl dX6_put_37 ?_
      refine r_dup rfl dX6_put_38 ?_
      refine r_geti dX6_put_39 fl_X6_22 rfl ?_
      refine r_iconst (v := 1) rfl dX6_put_42 ?_
      refine r_iadd dX6_put_43 ?_
      refine r_puti dX6_put_44 fl_X6_22 rfl rfl rfl ?_
      refine r_iinc (v := (shV (k + 1))) (ls2 := [(2, .int (shV (k + 1))), (0, .ref 14), (1, .int x)]) 0 dX6_put_47 rfl ((shV_s k hlt).1) (by decide) rfl ?_
      refine r_goto (tgt := 3) dX6_put_50 (by decide) ?_
      refine r_mem ?_ rfl rfl (ih hlt)
      rw [hus, nI_clamp (by omega)]
      have e14 : u2 (ptM MI x u k) 15 (u + k) (pbV x k) 14 1 = nI (u + k) := rfl
      rw [show (vp_nar .byte (x.toUInt32 >>> ((shV k).toUInt32 &&& Int32.toUInt32 31)).toInt32.toInt8.toInt32) = pbV x k from rfl, e14, show nI (u + k) + 1 = nI (u + (k + 1)) from x_inc _]
      funext b j
      by_cases h1 : b = 15 ∧ j = u + k
      · obtain ⟨rfl, rfl⟩ := h1
        simp only [u2, ptM]
        simp
      · by_cases h2 : b = 14 ∧ j = 1
        · obtain ⟨rfl, rfl⟩ := h2
          rfl
        · simp only [u2, ptM, h1, h2, if_false]
          by_cases h3 : b = 15 ∧ u ≤ j ∧ j < u + k
          · rw [if_pos h3, if_pos (by omega)]
          · rw [if_neg h3, if_neg (by omega)]
  have e0 : MI = ptM MI x u 0 := by
    funext b j
    unfold ptM
    rw [if_neg (by omega)]
    split
    · rename_i h
      obtain ⟨rfl, rfl⟩ := h
      exact hr
    · rfl
  refine r_bipush (v := 24) rfl dX6_put_0 ?_
  refine r_istore_n (ls2 := [(2, .int 24), (0, .ref 14), (1, .int x)]) dX6_put_2 (by decide) rfl ?_
  exact r_mem e0 rfl rfl (loop 0 (by decide))
def fdM (MI : Nat → Nat → Int32) (u : Nat) (a b c d e : Int32) : Nat → Nat → Int32 := ptM (ptM (ptM (ptM (ptM MI a u 4) b (u + 4) 4) c (u + 8) 4) d (u + 12) 4) e (u + 16) 4
set_option maxRecDepth 100000 in
theorem c_X10_feed (hM : x_Lay MR) {u : Nat} (hu : u ≤ 600) (hr : MI 14 1 = nI u) {a b c d e : Int32} : Cf X yX10_feed cX10_feed 6 (some .int) 2 [.ref 0, .int a, .int b, .int c, .int d, .int e] n SH MI ML MR (some (.int (if u + 20 ≤ 600 then nI (u + 20) else -1))) (if u + 20 ≤ 600 then fdM MI u a b c d e else MI) ML MR := by
  refine Ct_of (by decide) (Nat.le_of_ble_eq_true rfl) (fun G hG => ?_)
  by_cases h : u + 20 ≤ 600
  · rw [if_pos h, if_pos h] at hG
    refine r_aload_n 0 rfl dX10_feed_0 ?_
    refine r_getr dX10_feed_1 fl_X10_19 rfl (hM _ _ _ rfl) ?_
    refine r_Vf [] dX10_feed_4 lk_X10_74 mb_X6_hasRoom in_X6_hasRoom se_X6_hasRoom rfl (c_X6_hasRoom hu hr) rfl rfl rfl (Nat.le_of_ble_eq_true rfl) (rfl) ?_
    refine r_ifne (tgt := 12) dX10_feed_7 (by decide) (fun zh7 => ?_) (fun zh7 => ?_)
    rotate_left
    · exact absurd zh7 (fun q => absurd q (by rw [if_pos h]; decide))
    refine r_aload_n 0 rfl dX10_feed_12 ?_
    refine r_getr dX10_feed_13 fl_X10_19 rfl (hM _ _ _ rfl) ?_
    refine r_iload_n 1 rfl dX10_feed_16 ?_
    refine r_Vn [.int _] dX10_feed_17 lk_X10_78 mb_X6_put in_X6_put se_X6_put rfl (c_X6_put hM (u := u) (by omega) hr) rfl rfl rfl (Nat.le_of_ble_eq_true rfl) (rfl) ?_
    refine r_aload_n 0 rfl dX10_feed_20 ?_
    refine r_getr dX10_feed_21 fl_X10_19 rfl (hM _ _ _ rfl) ?_
    refine r_iload_n 2 rfl dX10_feed_24 ?_
    refine r_Vn [.int _] dX10_feed_25 lk_X10_78 mb_X6_put in_X6_put se_X6_put rfl (c_X6_put hM (u := u + 4) (by omega) rfl) rfl rfl rfl (Nat.le_of_ble_eq_true rfl) (rfl) ?_
    refine r_aload_n 0 rfl dX10_feed_28 ?_
    refine r_getr dX10_feed_29 fl_X10_19 rfl (hM _ _ _ rfl) ?_
    refine r_iload_n 3 rfl dX10_feed_32 ?_
    refine r_Vn [.int _] dX10_feed_33 lk_X10_78 mb_X6_put in_X6_put se_X6_put rfl (c_X6_put hM (u := u + 8) (by omega) rfl) rfl rfl rfl (Nat.le_of_ble_eq_true rfl) (rfl) ?_
    refine r_aload_n 0 rfl dX10_feed_36 ?_
    refine r_getr dX10_feed_37 fl_X10_19 rfl (hM _ _ _ rfl) ?_
    refine r_iload 4 rfl dX10_feed_40 ?_
    refine r_Vn [.int _] dX10_feed_42 lk_X10_78 mb_X6_put in_X6_put se_X6_put rfl (c_X6_put hM (u := u + 12) (by omega) rfl) rfl rfl rfl (Nat.le_of_ble_eq_true rfl) (rfl) ?_
    refine r_aload_n 0 rfl dX10_feed_45 ?_
    refine r_getr dX10_feed_46 fl_X10_19 rfl (hM _ _ _ rfl) ?_
    refine r_iload 5 rfl dX10_feed_49 ?_
    refine r_Vn [.int _] dX10_feed_51 lk_X10_78 mb_X6_put in_X6_put se_X6_put rfl (c_X6_put hM (u := u + 16) (by omega) rfl) rfl rfl rfl (Nat.le_of_ble_eq_true rfl) (rfl) ?_
    refine r_aload_n 0 rfl dX10_feed_54 ?_
    refine r_getr dX10_feed_55 fl_X10_19 rfl (hM _ _ _ rfl) ?_
    refine r_geti dX10_feed_58 fl_X10_82 rfl ?_
    exact r_iret hG dX10_feed_61 (⟨rfl, rfl, rfl, rfl⟩)
  · rw [if_neg h, if_neg h] at hG
    refine r_aload_n 0 rfl dX10_feed_0 ?_
    refine r_getr dX10_feed_1 fl_X10_19 rfl (hM _ _ _ rfl) ?_
    refine r_Vf [] dX10_feed_4 lk_X10_74 mb_X6_hasRoom in_X6_hasRoom se_X6_hasRoom rfl (c_X6_hasRoom hu hr) rfl rfl rfl (Nat.le_of_ble_eq_true rfl) (rfl) ?_
    refine r_ifne (tgt := 12) dX10_feed_7 (by decide) (fun zh7 => ?_) (fun zh7 => ?_)
    · exact absurd zh7 (fun q => q (by rw [if_neg h]))
    refine r_iconst (v := (-1)) rfl dX10_feed_10 ?_
    exact r_iret hG dX10_feed_11 (⟨rfl, rfl, rfl, rfl⟩)
/-! what is found anew -/
def zsM (MI : Nat → Nat → Int32) (i : Nat) : Nat → Nat → Int32 := fun b j => if j = 4 ∧ 89 ≤ b ∧ b < 89 + 7 * i ∧ (b - 89) % 7 = 0 then 0 else MI b j
theorem zsM_0 (MI : Nat → Nat → Int32) : zsM MI 0 = MI := by
  funext b j
  unfold zsM
  rw [if_neg (by omega)]
theorem sheetR {MR : Nat → Nat → Option Nat} (hM : x_Lay MR) {f : Nat} (hf : f < 5) : MR 59 f = some (89 + 7 * f) := by
  rcases (show f = 0 ∨ f = 1 ∨ f = 2 ∨ f = 3 ∨ f = 4 by omega) with rfl | rfl | rfl | rfl | rfl <;> exact hM _ _ _ rfl
/-- look, as memory -/
def lkS (MI : Nat → Nat → Int32) (ML : Nat → Nat → Int64) (S A : Nat) : Dp × Tg := lkD (arP MI) (MI 2) S A (MI 1 3) (MI 1 4) (MI 1 5) (ML 49, ML 50) (tgC MI)
def lkM (MI : Nat → Nat → Int32) (ML : Nat → Nat → Int64) (S A : Nat) : Nat → Nat → Int32 := laC (if (lkS MI ML S A).2.2.2.2.2.1 = 0 then dsM MI (dscV (arP MI) (MI 2) (lkS MI ML S A).2) A else MI) (lkS MI ML S A).2
def saM (MI : Nat → Nat → Int32) (ML : Nat → Nat → Int64) (S A : Nat) : Nat → Nat → Int32 := u2 (u2 (u2 (zsM (lkM MI ML S A) 5) 60 5 0) 85 1 (MI 1 3)) 85 2 0
def saL (MI : Nat → Nat → Int32) (ML : Nat → Nat → Int64) (S A : Nat) : Nat → Nat → Int64 := layD ML 49 50 (lkS MI ML S A).1
theorem lkM_b {S A b : Nat} (h : b < 43 ∨ 55 < b ∨ b = 48) : lkM MI ML S A b = MI b := by
  unfold lkM
  rw [laC_b _ (by omega)]
  split
  · rw [dsM_b (by omega)]
  · rfl
set_option maxRecDepth 100000 in
theorem c_X10_studyAnew (hM : x_Lay MR) (hSt : x_St X) {S A : Nat} (hS : S ≤ 6) (hSr : MI 1 1 = nI S) (hA : A ≤ 8) (hAr : MI 1 6 = nI A) : Cf X yX10_studyAnew cX10_studyAnew 2 none 6 [.ref 0] n SH MI ML MR none (saM MI ML S A) (saL MI ML S A) MR := by
  refine Ct_of (by decide) (Nat.le_of_ble_eq_true rfl) (fun G hG => ?_)
  have loop : ∀ i, i ≤ 5 → RW X G RX10 cX10_studyAnew 2 (x_rm 6 0 0) n SH (zsM (lkM MI ML S A) i) (saL MI ML S A) MR 0 0 9 [(1, .int (nI i)), (0, .ref 0)] [] := by
    refine bwd (fun i hi ih => ?_)
    have h13 : zsM (lkM MI ML S A) 5 1 3 = MI 1 3 := by
      unfold zsM
      rw [if_neg (by omega), lkM_b (by omega)]
    refine r_iload_n 0 rfl dX10_studyAnew_9 ?_
    refine r_iconst (v := 5) rfl dX10_studyAnew_10 ?_
    refine r_icmpge (tgt := 30) dX10_studyAnew_11 (by decide) (fun zh11 => ?_) (fun zh11 => ?_)
    · obtain rfl : i = 5 := by have := geL (k := 5) (by decide) (by omega) zh11; omega
      refine r_aload_n 1 rfl dX10_studyAnew_30 ?_
      refine r_getr dX10_studyAnew_31 fl_X10_57 rfl (hM _ _ _ rfl) ?_
      refine r_iconst (v := 0) rfl dX10_studyAnew_34 ?_
      refine r_puti dX10_studyAnew_35 fl_X10_337 rfl rfl rfl ?_
      refine r_aload_n 1 rfl dX10_studyAnew_38 ?_
      refine r_getr dX10_studyAnew_39 fl_X10_64 rfl (hM _ _ _ rfl) ?_
      refine r_Vn [] dX10_studyAnew_42 lk_X10_312 mb_X9_restart in_X9_restart se_X9_restart rfl (c_X9_restart hM) rfl rfl rfl (Nat.le_of_ble_eq_true rfl) (rfl) ?_
      exact r_vret hG dX10_studyAnew_45 (⟨rfl, by rw [u2_row _ _ (show 1 ≠ 60 by decide), h13]; rfl, rfl, rfl⟩)
    · have hlt : i < 5 := ltL (by omega) zh11
      refine r_aload_n 1 rfl dX10_studyAnew_14 ?_
      refine r_getr dX10_studyAnew_15 fl_X10_48 rfl (hM _ _ _ rfl) ?_
      refine r_iload_n 0 rfl dX10_studyAnew_18 ?_
      refine r_aald dX10_studyAnew_19 rfl (by decide) (vp_in_nI hlt (by decide)) (by rw [nI_clamp (by omega)]; exact sheetR hM hlt) ?_
      refine r_iconst (v := 0) rfl dX10_studyAnew_20 ?_
      refine r_puti dX10_studyAnew_21 fl_X10_334 (shOf hM hlt).1 rfl rfl ?_
      refine r_iinc (v := (nI (i + 1))) (ls2 := [(1, .int (nI (i + 1))), (0, .ref 0)]) 0 dX10_studyAnew_24 rfl (x_inc i) (by decide) rfl ?_
      refine r_goto (tgt := 9) dX10_studyAnew_27 (by decide) ?_
      refine r_mem ?_ rfl rfl (ih hlt)
      funext b j
      simp only [u2, zsM]
      by_cases h1 : b = 89 + 7 * i ∧ j = 4
      · rw [if_pos h1, if_pos (by omega)]
      · rw [if_neg h1]
        by_cases h2 : j = 4 ∧ 89 ≤ b ∧ b < 89 + 7 * i ∧ (b - 89) % 7 = 0
        · rw [if_pos h2, if_pos (by omega)]
        · rw [if_neg h2, if_neg (by omega)]
  refine r_aload_n 0 rfl dX10_studyAnew_0 ?_
  refine r_getr dX10_studyAnew_1 fl_X10_35 rfl (hM _ _ _ rfl) ?_
  refine r_Vn [] dX10_studyAnew_4 lk_X10_331 mb_X8_look in_X8_look se_X8_look rfl (c_X8_look hM hSt hS hSr hA hAr (s := lkS MI ML S A) rfl) rfl rfl rfl (Nat.le_of_ble_eq_true rfl) (rfl) ?_
  refine r_iconst (v := 0) rfl dX10_studyAnew_7 ?_
  refine r_istore_n (ls2 := [(1, .int 0), (0, .ref 0)]) dX10_studyAnew_8 (by decide) rfl ?_
  refine r_mem ?_ rfl rfl (loop 0 (by omega))
  rw [zsM_0]
  rfl
/-! the calls that look at the machine -/
set_option maxRecDepth 100000 in
theorem c_X10_fault : Cf X yX10_fault cX10_fault 1 (some .int) 1 [.ref 0] n SH MI ML MR (some (.int (MI 0 9))) MI ML MR := by
  refine Ct_of (by decide) (Nat.le_of_ble_eq_true rfl) (fun G hG => ?_)
  refine r_aload_n 0 rfl dX10_fault_0 ?_
  refine r_geti dX10_fault_1 fl_X10_97 rfl ?_
  exact r_iret hG dX10_fault_4 (⟨rfl, rfl, rfl, rfl⟩)
set_option maxRecDepth 100000 in
theorem c_X10_trouble : Cf X yX10_trouble cX10_trouble 1 (some .int) 1 [.ref 0] n SH MI ML MR (some (.int (MI 0 8))) MI ML MR := by
  refine Ct_of (by decide) (Nat.le_of_ble_eq_true rfl) (fun G hG => ?_)
  refine r_aload_n 0 rfl dX10_trouble_0 ?_
  refine r_geti dX10_trouble_1 fl_X10_118 rfl ?_
  exact r_iret hG dX10_trouble_4 (⟨rfl, rfl, rfl, rfl⟩)
set_option maxRecDepth 100000 in
theorem c_X10_where (hM : x_Lay MR) : Cf X yX10_where cX10_where 1 (some .int) 1 [.ref 0] n SH MI ML MR (some (.int (if MI 0 8 = 4 then MI 14 4 else -1))) MI ML MR := by
  refine Ct_of (by decide) (Nat.le_of_ble_eq_true rfl) (fun G hG => ?_)
  refine r_aload_n 0 rfl dX10_where_0 ?_
  refine r_geti dX10_where_1 fl_X10_118 rfl ?_
  refine r_iconst (v := 4) rfl dX10_where_4 ?_
  refine r_icmpne (tgt := 18) dX10_where_5 (by decide) (fun zh5 => ?_) (fun zh5 => ?_)
  · refine r_iconst (v := (-1)) rfl dX10_where_18 ?_
    exact r_iret hG dX10_where_19 (⟨by simp [zh5], rfl, rfl, rfl⟩)
  · refine r_aload_n 0 rfl dX10_where_8 ?_
    refine r_getr dX10_where_9 fl_X10_19 rfl (hM _ _ _ rfl) ?_
    refine r_geti dX10_where_12 fl_X10_121 rfl ?_
    refine r_goto (tgt := 19) dX10_where_15 (by decide) ?_
    exact r_iret hG dX10_where_19 (⟨by simp [zh5], rfl, rfl, rfl⟩)
/-- an answer and a trouble: told, or refused -/
def ansM (MI : Nat → Nat → Int32) (w : Int32) : Nat → Nat → Int32 := u2 MI 0 8 w
set_option maxRecDepth 100000 in
theorem c_X10_bad (hM : x_Lay MR) : Cf X yX10_bad cX10_bad 1 (some .int) 2 [.ref 0] n SH MI ML MR (some (.int (if MI 1 0 = 0 then -1 else MI 43 6))) (ansM MI (if MI 1 0 = 0 then 1 else 0)) ML MR := by
  refine Ct_of (by decide) (Nat.le_of_ble_eq_true rfl) (fun G hG => ?_)
  refine r_aload_n 0 rfl dX10_bad_0 ?_
  refine r_getr dX10_bad_1 fl_X10_10 rfl (hM _ _ _ rfl) ?_
  refine r_geti dX10_bad_4 fl_X10_124 rfl ?_
  refine r_ifeq (tgt := 24) dX10_bad_7 (by decide) (fun zh7 => ?_) (fun zh7 => ?_)
  · refine r_aload_n 0 rfl dX10_bad_24 ?_
    refine r_iconst (v := 1) rfl dX10_bad_25 ?_
    refine r_Vf [.int _] dX10_bad_26 lk_X10_86 mb_X10_refuse in_X10_refuse se_X10_refuse rfl (c_X10_refuse) rfl rfl rfl (Nat.le_of_ble_eq_true rfl) (rfl) ?_
    exact r_iret hG dX10_bad_29 (⟨by simp [zh7], by simp [zh7, ansM], rfl, rfl⟩)
  · refine r_aload_n 0 rfl dX10_bad_10 ?_
    refine r_aload_n 0 rfl dX10_bad_11 ?_
    refine r_getr dX10_bad_12 fl_X10_35 rfl (hM _ _ _ rfl) ?_
    refine r_geti dX10_bad_15 fl_X10_127 rfl ?_
    refine r_Vf [.int _] dX10_bad_18 lk_X10_115 mb_X10_told in_X10_told se_X10_told rfl (c_X10_told) rfl rfl rfl (Nat.le_of_ble_eq_true rfl) (rfl) ?_
    refine r_goto (tgt := 29) dX10_bad_21 (by decide) ?_
    exact r_iret hG dX10_bad_29 (⟨by simp [zh7], by simp [zh7, ansM], rfl, rfl⟩)
set_option maxRecDepth 100000 in
theorem c_X10_badAt (hM : x_Lay MR) : Cf X yX10_badAt cX10_badAt 1 (some .int) 2 [.ref 0] n SH MI ML MR (some (.int (if MI 1 0 = 0 then -1 else MI 43 7))) (ansM MI (if MI 1 0 = 0 then 1 else 0)) ML MR := by
  refine Ct_of (by decide) (Nat.le_of_ble_eq_true rfl) (fun G hG => ?_)
  refine r_aload_n 0 rfl dX10_badAt_0 ?_
  refine r_getr dX10_badAt_1 fl_X10_10 rfl (hM _ _ _ rfl) ?_
  refine r_geti dX10_badAt_4 fl_X10_124 rfl ?_
  refine r_ifeq (tgt := 24) dX10_badAt_7 (by decide) (fun zh7 => ?_) (fun zh7 => ?_)
  · refine r_aload_n 0 rfl dX10_badAt_24 ?_
    refine r_iconst (v := 1) rfl dX10_badAt_25 ?_
    refine r_Vf [.int _] dX10_badAt_26 lk_X10_86 mb_X10_refuse in_X10_refuse se_X10_refuse rfl (c_X10_refuse) rfl rfl rfl (Nat.le_of_ble_eq_true rfl) (rfl) ?_
    exact r_iret hG dX10_badAt_29 (⟨by simp [zh7], by simp [zh7, ansM], rfl, rfl⟩)
  · refine r_aload_n 0 rfl dX10_badAt_10 ?_
    refine r_aload_n 0 rfl dX10_badAt_11 ?_
    refine r_getr dX10_badAt_12 fl_X10_35 rfl (hM _ _ _ rfl) ?_
    refine r_geti dX10_badAt_15 fl_X10_130 rfl ?_
    refine r_Vf [.int _] dX10_badAt_18 lk_X10_115 mb_X10_told in_X10_told se_X10_told rfl (c_X10_told) rfl rfl rfl (Nat.le_of_ble_eq_true rfl) (rfl) ?_
    refine r_goto (tgt := 29) dX10_badAt_21 (by decide) ?_
    exact r_iret hG dX10_badAt_29 (⟨by simp [zh7], by simp [zh7, ansM], rfl, rfl⟩)
def stAns (MI : Nat → Nat → Int32) (x y : Int32) : Int32 × Int32 := if inR x (MI 1 1) = true ∧ inR y 3 = true then (if y = 0 then (pickV (MI 2) 6 x, 0) else if inR x 6 = true ∧ ¬ MI 46 x.toNatClampNeg = 0 then (pickV (MI (if y = 1 then 44 else 45)) 6 x, 0) else (-2, 0)) else (-1, 1)
theorem inR3 {y : Int32} : inR y 3 = true ↔ ¬ y < 0 ∧ y ≤ 2 := by
  rw [inR_t]
  constructor
  · intro h
    refine ⟨h.1, ?_⟩
    obtain ⟨j, hj, rfl⟩ := inR_ex (N := 3) (by decide) h.1 h.2
    exact nI_le (b := 2) (by omega) (by decide)
  · intro h
    refine ⟨h.1, fun q => ?_⟩
    obtain ⟨j, hj, rfl⟩ := nI_of2 (n := 2) (by decide) h.1 h.2
    exact absurd (geL (k := 3) (by decide) (by omega) q) (by omega)
set_option maxRecDepth 100000 in
theorem c_X10_state (hM : x_Lay MR) {x y : Int32} : Cf X yX10_state cX10_state 3 (some .int) 2 [.ref 0, .int x, .int y] n SH MI ML MR (some (.int (stAns MI x y).1)) (ansM MI (stAns MI x y).2) ML MR := by
  refine Ct_of (by decide) (Nat.le_of_ble_eq_true rfl) (fun G hG => ?_)
  have no : ¬ (inR x (MI 1 1) = true ∧ inR y 3 = true) → stAns MI x y = (-1, 1) := fun h => if_neg h
  have yes : inR x (MI 1 1) = true → inR y 3 = true → stAns MI x y = (if y = 0 then (pickV (MI 2) 6 x, 0) else if inR x 6 = true ∧ ¬ MI 46 x.toNatClampNeg = 0 then (pickV (MI (if y = 1 then 44 else 45)) 6 x, 0) else (-2, 0)) := fun h1 h2 => if_pos ⟨h1, h2⟩
  refine r_iload_n 1 rfl dX10_state_0 ?_
  refine r_iflt (tgt := 24) dX10_state_1 (by decide) (fun zh1 => ?_) (fun zh1 => ?_)
  · refine r_aload_n 0 rfl dX10_state_24 ?_
    refine r_iconst (v := 1) rfl dX10_state_25 ?_
    refine r_Vf [.int _] dX10_state_26 lk_X10_86 mb_X10_refuse in_X10_refuse se_X10_refuse rfl (c_X10_refuse) rfl rfl rfl (Nat.le_of_ble_eq_true rfl) (rfl) ?_
    exact r_iret hG dX10_state_29 (by have hn := no (fun z => by have z1 := inR_t.mp z.1; have z2 := inR3.mp z.2; first | exact z1.1 zh1 | exact z1.2 zh12 | exact z2.1 zh16 | exact zh21 z2.2); rw [hn]; exact ⟨rfl, rfl, rfl, rfl⟩)
  · refine r_iload_n 1 rfl dX10_state_4 ?_
    refine r_aload_n 0 rfl dX10_state_5 ?_
    refine r_getr dX10_state_6 fl_X10_10 rfl (hM _ _ _ rfl) ?_
    refine r_geti dX10_state_9 fl_X10_133 rfl ?_
    refine r_icmpge (tgt := 24) dX10_state_12 (by decide) (fun zh12 => ?_) (fun zh12 => ?_)
    · refine r_aload_n 0 rfl dX10_state_24 ?_
      refine r_iconst (v := 1) rfl dX10_state_25 ?_
      refine r_Vf [.int _] dX10_state_26 lk_X10_86 mb_X10_refuse in_X10_refuse se_X10_refuse rfl (c_X10_refuse) rfl rfl rfl (Nat.le_of_ble_eq_true rfl) (rfl) ?_
      exact r_iret hG dX10_state_29 (by have hn := no (fun z => by have z1 := inR_t.mp z.1; have z2 := inR3.mp z.2; first | exact z1.1 zh1 | exact z1.2 zh12 | exact z2.1 zh16 | exact zh21 z2.2); rw [hn]; exact ⟨rfl, rfl, rfl, rfl⟩)
    · refine r_iload_n 2 rfl dX10_state_15 ?_
      refine r_iflt (tgt := 24) dX10_state_16 (by decide) (fun zh16 => ?_) (fun zh16 => ?_)
      · refine r_aload_n 0 rfl dX10_state_24 ?_
        refine r_iconst (v := 1) rfl dX10_state_25 ?_
        refine r_Vf [.int _] dX10_state_26 lk_X10_86 mb_X10_refuse in_X10_refuse se_X10_refuse rfl (c_X10_refuse) rfl rfl rfl (Nat.le_of_ble_eq_true rfl) (rfl) ?_
        exact r_iret hG dX10_state_29 (by have hn := no (fun z => by have z1 := inR_t.mp z.1; have z2 := inR3.mp z.2; first | exact z1.1 zh1 | exact z1.2 zh12 | exact z2.1 zh16 | exact zh21 z2.2); rw [hn]; exact ⟨rfl, rfl, rfl, rfl⟩)
      · refine r_iload_n 2 rfl dX10_state_19 ?_
        refine r_iconst (v := 2) rfl dX10_state_20 ?_
        refine r_icmple (tgt := 30) dX10_state_21 (by decide) (fun zh21 => ?_) (fun zh21 => ?_)
        · have hy := yes (inR_t.mpr ⟨zh1, zh12⟩) (inR3.mpr ⟨zh16, zh21⟩)
          refine r_iload_n 2 rfl dX10_state_30 ?_
          refine r_ifne (tgt := 50) dX10_state_31 (by decide) (fun zh31 => ?_) (fun zh31 => ?_)
          · refine r_aload_n 0 rfl dX10_state_50 ?_
            refine r_getr dX10_state_51 fl_X10_35 rfl (hM _ _ _ rfl) ?_
            refine r_iload_n 1 rfl dX10_state_54 ?_
            refine r_Vf [.int _] dX10_state_55 lk_X10_144 mb_X8_hasValues in_X8_hasValues se_X8_hasValues rfl (c_X8_hasValues hM) rfl rfl rfl (Nat.le_of_ble_eq_true rfl) (rfl) ?_
            refine r_ifne (tgt := 68) dX10_state_58 (by decide) (fun zh58 => ?_) (fun zh58 => ?_)
            · refine r_aload_n 0 rfl dX10_state_68 ?_
              refine r_iload_n 2 rfl dX10_state_69 ?_
              refine r_iconst (v := 1) rfl dX10_state_70 ?_
              refine r_icmpne (tgt := 84) dX10_state_71 (by decide) (fun zh71 => ?_) (fun zh71 => ?_)
              · refine r_aload_n 0 rfl dX10_state_84 ?_
                refine r_getr dX10_state_85 fl_X10_35 rfl (hM _ _ _ rfl) ?_
                refine r_getr dX10_state_88 fl_X10_150 rfl (hM _ _ _ rfl) ?_
                refine r_iload_n 1 rfl dX10_state_91 ?_
                refine r_Sf [.ref _, .int _] dX10_state_92 lk_X10_140 mb_X10_pick sc_X10_pick rfl (c_X10_pick (N := 6) (by first | (exact (show SH[44]? = some (13, 6) from rfl)) | (exact (show SH[45]? = some (13, 6) from rfl))) (by decide)) rfl (Nat.le_of_ble_eq_true rfl) (rfl) ?_
                refine r_Vf [.int _] dX10_state_95 lk_X10_115 mb_X10_told in_X10_told se_X10_told rfl (c_X10_told) rfl rfl rfl (Nat.le_of_ble_eq_true rfl) (rfl) ?_
                exact r_iret hG dX10_state_98 (by rw [if_neg zh31, if_pos (Classical.not_not.mp fun z => zh58 (by rw [if_neg z]))] at hy; first | (rw [if_pos zh71] at hy; rw [hy]; exact ⟨rfl, rfl, rfl, rfl⟩) | (rw [if_neg zh71] at hy; rw [hy]; exact ⟨rfl, rfl, rfl, rfl⟩))
              · refine r_aload_n 0 rfl dX10_state_74 ?_
                refine r_getr dX10_state_75 fl_X10_35 rfl (hM _ _ _ rfl) ?_
                refine r_getr dX10_state_78 fl_X10_147 rfl (hM _ _ _ rfl) ?_
                refine r_goto (tgt := 91) dX10_state_81 (by decide) ?_
                refine r_iload_n 1 rfl dX10_state_91 ?_
                refine r_Sf [.ref _, .int _] dX10_state_92 lk_X10_140 mb_X10_pick sc_X10_pick rfl (c_X10_pick (N := 6) (by first | (exact (show SH[44]? = some (13, 6) from rfl)) | (exact (show SH[45]? = some (13, 6) from rfl))) (by decide)) rfl (Nat.le_of_ble_eq_true rfl) (rfl) ?_
                refine r_Vf [.int _] dX10_state_95 lk_X10_115 mb_X10_told in_X10_told se_X10_told rfl (c_X10_told) rfl rfl rfl (Nat.le_of_ble_eq_true rfl) (rfl) ?_
                exact r_iret hG dX10_state_98 (by rw [if_neg zh31, if_pos (Classical.not_not.mp fun z => zh58 (by rw [if_neg z]))] at hy; first | (rw [if_pos zh71] at hy; rw [hy]; exact ⟨rfl, rfl, rfl, rfl⟩) | (rw [if_neg zh71] at hy; rw [hy]; exact ⟨rfl, rfl, rfl, rfl⟩))
            · refine r_aload_n 0 rfl dX10_state_61 ?_
              refine r_bipush (v := (-2)) rfl dX10_state_62 ?_
              refine r_Vf [.int _] dX10_state_64 lk_X10_115 mb_X10_told in_X10_told se_X10_told rfl (c_X10_told) rfl rfl rfl (Nat.le_of_ble_eq_true rfl) (rfl) ?_
              exact r_iret hG dX10_state_67 (by rw [if_neg zh31, if_neg (fun z => by rw [if_pos z] at zh58; exact absurd zh58 (by decide))] at hy; rw [hy]; exact ⟨rfl, rfl, rfl, rfl⟩)
          · refine r_aload_n 0 rfl dX10_state_34 ?_
            refine r_aload_n 0 rfl dX10_state_35 ?_
            refine r_getr dX10_state_36 fl_X10_10 rfl (hM _ _ _ rfl) ?_
            refine r_getr dX10_state_39 fl_X10_136 rfl (hM _ _ _ rfl) ?_
            refine r_iload_n 1 rfl dX10_state_42 ?_
            refine r_Sf [.ref _, .int _] dX10_state_43 lk_X10_140 mb_X10_pick sc_X10_pick rfl (c_X10_pick (a := 2) (N := 6) rfl (by decide)) rfl (Nat.le_of_ble_eq_true rfl) (rfl) ?_
            refine r_Vf [.int _] dX10_state_46 lk_X10_115 mb_X10_told in_X10_told se_X10_told rfl (c_X10_told) rfl rfl rfl (Nat.le_of_ble_eq_true rfl) (rfl) ?_
            exact r_iret hG dX10_state_49 (by rw [if_pos zh31] at hy; rw [hy]; exact ⟨rfl, rfl, rfl, rfl⟩)
        · refine r_aload_n 0 rfl dX10_state_24 ?_
          refine r_iconst (v := 1) rfl dX10_state_25 ?_
          refine r_Vf [.int _] dX10_state_26 lk_X10_86 mb_X10_refuse in_X10_refuse se_X10_refuse rfl (c_X10_refuse) rfl rfl rfl (Nat.le_of_ble_eq_true rfl) (rfl) ?_
          exact r_iret hG dX10_state_29 (by have hn := no (fun z => by have z1 := inR_t.mp z.1; have z2 := inR3.mp z.2; first | exact z1.1 zh1 | exact z1.2 zh12 | exact z2.1 zh16 | exact zh21 z2.2); rw [hn]; exact ⟨rfl, rfl, rfl, rfl⟩)
end desk

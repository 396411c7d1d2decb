/-! the reference: codings, coding -/
/-- the digits of t to the base N, S of them, the first the highest -/
def odg (N : Nat) : Nat → Nat → Nat → Nat
  | 0, _, _ => 0
  | S + 1, t, s => if s = S then t % N else odg N S (t / N) s
/-- the next row, from the last of k places on -/
def ncS (m : Int32) : Nat → (Nat → Int32) → Bool × (Nat → Int32)
  | 0, C => (false, C)
  | k + 1, C => if C k = m then ncS m k (up C k 0) else (true, up C k (C k + 1))
theorem odg_lt {N : Nat} (hN : 0 < N) : ∀ S t s, odg N S t s < N := by
  intro S
  induction S with
  | zero => intro t s; exact hN
  | succ S ih =>
    intro t s
    rw [odg]
    split
    · exact Nat.mod_lt _ hN
    · exact ih _ _
theorem odg_0 {N : Nat} : ∀ S s, odg N S 0 s = 0 := by
  intro S
  induction S with
  | zero => intro s; rfl
  | succ S ih =>
    intro s
    rw [odg]
    split
    · exact Nat.zero_mod _
    · rw [Nat.zero_div]; exact ih _
theorem ncS_ge {m : Int32} : ∀ k C s, k ≤ s → (ncS m k C).2 s = C s := by
  intro k
  induction k with
  | zero => intro C s _; rfl
  | succ k ih =>
    intro C s hs
    rw [ncS]
    split
    · rw [ih _ s (by omega)]; unfold up; rw [if_neg (by omega)]
    · show up C k _ s = C s
      unfold up; rw [if_neg (by omega)]
theorem nI_m1 {k : Nat} : nI (k + 1) - 1 = nI k := by
  have h := nI_1 k
  rw [← h]
  exact Int32.add_sub_cancel _ _
theorem nI_d1 (x : Int32) : x + Int32.ofInt (-1) = x - 1 := by
  have h : Int32.ofInt (-1) = -(1 : Int32) := by decide
  rw [h, Int32.sub_eq_add_neg]
theorem ncS_dg {N : Nat} (hN : 0 < N) (hN4 : N ≤ 4) : ∀ S t C, t < N ^ S → (∀ s, s < S → C s = nI (odg N S t s)) → ((ncS (nI N - 1) S C).1 = decide (t + 1 < N ^ S)) ∧ (t + 1 < N ^ S → ∀ s, s < S → (ncS (nI N - 1) S C).2 s = nI (odg N S (t + 1) s)) := by
  obtain ⟨M, rfl⟩ : ∃ M, N = M + 1 := ⟨N - 1, by omega⟩
  rw [nI_m1]
  intro S
  induction S with
  | zero =>
    intro t C ht _
    have : t = 0 := by rw [Nat.pow_zero] at ht; omega
    rw [this]
    exact ⟨rfl, fun h => by rw [Nat.pow_zero] at h; omega⟩
  | succ S ih =>
    intro t C ht hC
    have hd := Nat.div_add_mod t (M + 1)
    have hml := Nat.mod_lt t hN
    have hq : t / (M + 1) < (M + 1) ^ S := by
      rw [Nat.div_lt_iff_lt_mul hN, ← Nat.pow_succ]
      exact ht
    have hS := hC S (Nat.lt_succ_self S)
    rw [odg, if_pos rfl] at hS
    have hlo : ∀ s, s < S → C s = nI (odg (M + 1) S (t / (M + 1)) s) := fun s hs => by
      have h := hC s (by omega)
      rw [odg, if_neg (by omega)] at h
      exact h
    rw [ncS]
    by_cases h : t % (M + 1) = M
    · have e1 : C S = nI M := by rw [hS, h]
      rw [if_pos e1]
      obtain ⟨i1, i2⟩ := ih (t / (M + 1)) (up C S 0) hq (fun s hs => by unfold up; rw [if_neg (by omega)]; exact hlo s hs)
      have et : t + 1 = (t / (M + 1) + 1) * (M + 1) := by rw [Nat.add_mul, Nat.one_mul, Nat.mul_comm (t / (M + 1))]; omega
      have ek : (t + 1 < (M + 1) ^ (S + 1)) ↔ (t / (M + 1) + 1 < (M + 1) ^ S) := by
        rw [et, Nat.pow_succ]
        exact Nat.mul_lt_mul_right hN
      refine ⟨?_, fun hlt s hs => ?_⟩
      · rw [i1]
        exact decide_eq_decide.mpr ek.symm
      · rcases Nat.lt_or_ge s S with z | z
        · rw [i2 (ek.mp hlt) s z, odg, if_neg (by omega), et, Nat.mul_div_cancel _ hN]
        · obtain rfl : s = S := by omega
          rw [ncS_ge _ _ _ (Nat.le_refl _), odg, if_pos rfl, et, Nat.mul_mod_left]
          unfold up
          rw [if_pos rfl]
          rfl
    · have e1 : ¬ C S = nI M := by
        rw [hS]
        exact fun z => h ((nI_eq (by omega) (by omega)).mp z)
      rw [if_neg e1]
      have em : (t + 1) % (M + 1) = t % (M + 1) + 1 := by
        rw [Nat.add_mod, Nat.mod_eq_of_lt (show 1 < M + 1 by omega)]
        exact Nat.mod_eq_of_lt (by omega)
      have ed : (t + 1) / (M + 1) = t / (M + 1) := by
        rw [Nat.div_eq_iff hN]
        have := Nat.mul_comm (M + 1) (t / (M + 1))
        omega
      have hlt : t + 1 < (M + 1) ^ (S + 1) := by
        rw [Nat.pow_succ, ← Nat.div_lt_iff_lt_mul hN, ed]
        exact hq
      refine ⟨(decide_eq_true hlt).symm, fun _ s hs => ?_⟩
      show up C S (C S + 1) s = _
      unfold up
      rcases Nat.lt_or_ge s S with z | z
      · rw [if_neg (by omega), odg, if_neg (by omega), ed]
        exact hlo s z
      · obtain rfl : s = S := by omega
        rw [if_pos rfl, odg, if_pos rfl, em, hS]
        exact nI_1 _
/-- the codes of row t -/
def ocF (V : Nat → Int32) (S N t : Nat) : Nat → Int32 := fun s => if s < S then nI (odg N S t s) else V s
def okT (I O V : Nat → Int32) (P : Nat → Nat → Int32) (S A N : Nat) (q : Dp) (t : Nat) : Bool := decide (unlO I O (ocF V S N t) S = none) && decide ((clA I O (ocF V S N t) P S A q).2 = none)
def owy (f : Nat → Bool) : Nat → Nat
  | 0 => 0
  | k + 1 => owy f k + (if f k = true then 1 else 0)
theorem owy_le (f : Nat → Bool) : ∀ k, owy f k ≤ k
  | 0 => Nat.le_refl _
  | k + 1 => by
    have := owy_le f k
    rw [owy]
    split <;> omega
theorem owy_0 {f : Nat → Bool} : ∀ k, owy f k = 0 ↔ (List.range k).find? f = none
  | 0 => ⟨fun _ => rfl, fun _ => rfl⟩
  | k + 1 => by
    rw [owy, List.range_succ, List.find?_append, Option.or_eq_none_iff, ← owy_0 k, List.find?_singleton]
    by_cases h : f k = true
    · rw [if_pos h, if_pos h]
      exact ⟨fun z => by omega, fun z => by cases z.2⟩
    · rw [if_neg h, if_neg h]
      exact ⟨fun z => ⟨by omega, rfl⟩, fun z => by omega⟩
def cwM (W : Mi) (S : Nat) : Mi := if W 124 52 = 0 then u2 (sr W 151 (copyTo (W 151) (W 128) S)) 124 52 (W 124 52 + 1) else u2 W 124 52 (W 124 52 + 1)
/-- beyond 5 nothing changes -/
def hiD (q r : Dp) : Prop := ∀ k, 5 ≤ k → r.1 k = q.1 k ∧ r.2 k = q.2 k
theorem hiD_rf (q : Dp) : hiD q q := fun _ _ => ⟨rfl, rfl⟩
theorem hiD_tr {q r s : Dp} (h : hiD q r) (h2 : hiD r s) : hiD q s := fun k hk => ⟨(h2 k hk).1.trans (h k hk).1, (h2 k hk).2.trans (h k hk).2⟩
theorem hiD_w (q : Dp) (v : Int32) (p : Int64) : hiD q (demW q v p) := fun k hk => ⟨by show wantZ q.1 v p 5 k = _; unfold wantZ; rw [if_neg (fun z => by omega)], by show wantO q.2 v p 5 k = _; unfold wantO; rw [if_neg (fun z => by omega)]⟩
theorem hiD_z (q : Dp) : hiD q (zDp q) := fun k hk => ⟨by show zeroTo q.1 5 k = _; unfold zeroTo; rw [if_neg (by omega)], by show zeroTo q.2 5 k = _; unfold zeroTo; rw [if_neg (by omega)]⟩
theorem hiD_1 {I O C : Nat → Int32} {f t b : Int32} : ∀ k q, hiD q (lyA1 I O C f t b k q) := by
  intro k
  induction k with
  | zero => intro q; exact hiD_rf q
  | succ k ih =>
    intro q
    rw [lyA1]
    split
    · exact hiD_tr (ih q) (hiD_w _ _ _)
    · exact ih q
theorem hiD_2 {I O C : Nat → Int32} {f t : Int32} : ∀ k q, hiD q (lyA2 I O C f t k q) := by
  intro k
  induction k with
  | zero => intro q; exact hiD_rf q
  | succ k ih =>
    intro q
    rw [lyA2]
    split
    · exact hiD_tr (ih q) (hiD_w _ _ _)
    · exact ih q
theorem hiD_A {I O C : Nat → Int32} {f t b : Int32} (q : Dp) : hiD q (lyA I O C f t b q) := hiD_tr (hiD_1 _ _) (hiD_2 _ _)
theorem hiD_S {I O C : Nat → Int32} : ∀ k q, hiD q (stL I O C k q) := by
  intro k
  induction k with
  | zero => intro q; exact hiD_rf q
  | succ k ih => intro q; exact hiD_tr (ih q) (hiD_w _ _ _)
theorem hiD_L {f : Nat → Dp → Dp} (hf : ∀ i q, hiD q (f i q)) : ∀ k i q, hiD q (clL f k i q).1 := by
  intro k
  induction k with
  | zero => intro i q; exact hiD_rf q
  | succ k ih =>
    intro i q
    rw [clL]
    split
    · exact hf i q
    · exact hiD_tr (hf i q) (ih _ _)
theorem hiD_C {I O C : Nat → Int32} {P : Nat → Nat → Int32} {S A : Nat} (q : Dp) : hiD q (clA I O C P S A q).1 := hiD_tr (hiD_tr (hiD_z q) (hiD_S _ _)) (hiD_L (fun _ _ => hiD_A _) _ _ _)
theorem zDp_hi {q r : Dp} (h : hiD q r) : zDp r = zDp q := by
  have e : ∀ (a b : Nat → Int64), (∀ k, 5 ≤ k → a k = b k) → zeroTo a 5 = zeroTo b 5 := fun a b hab => by
    funext k
    unfold zeroTo
    split
    · rfl
    · exact hab k (by omega)
  unfold zDp
  rw [e r.1 q.1 (fun k hk => (h k hk).1), e r.2 q.2 (fun k hk => (h k hk).2)]
theorem clA_hi {I O C : Nat → Int32} {P : Nat → Nat → Int32} {S A : Nat} {q r : Dp} (h : hiD q r) : clA I O C P S A r = clA I O C P S A q := by
  unfold clA
  rw [zDp_hi h]
def tcI (MI : Mi) (ML : Nat → Nat → Int64) (S N : Nat) (f : Nat → Bool) (u : Nat) (W : Mi) (B : Nat → Nat → Int64) : Prop := (∀ b, b ≠ 124 → b ≠ 128 → b ≠ 150 → b ≠ 151 → W b = MI b) ∧ (∀ j, j ≠ 52 → W 124 j = MI 124 j) ∧ (∀ s, S ≤ s → W 128 s = MI 128 s) ∧ (∀ s, s < S → W 150 s = MI 128 s) ∧ W 124 52 = nI (owy f u) ∧ (∀ t0, (List.range u).find? f = some t0 → ∀ s, s < S → W 151 s = nI (odg N S t0 s)) ∧ (∀ b, b ≠ 137 → b ≠ 138 → b ≠ 152 → b ≠ 153 → B b = ML b) ∧ (∀ k, k < 5 → B 152 k = ML 137 k ∧ B 153 k = ML 138 k) ∧ hiD (ML 138, ML 137) (B 138, B 137)
def tcQ (MI : Mi) (ML : Nat → Nat → Int64) (S N : Nat) (f : Nat → Bool) (W : Mi) (B : Nat → Nat → Int64) : Prop := (∀ b, b ≠ 124 → b ≠ 150 → b ≠ 151 → W b = MI b) ∧ (∀ j, j ≠ 52 → W 124 j = MI 124 j) ∧ (∀ b, b ≠ 152 → b ≠ 153 → B b = ML b) ∧ W 124 52 = nI (owy f (N ^ S)) ∧ ∀ t0, (List.range (N ^ S)).find? f = some t0 → ∀ s, s < S → W 151 s = nI (odg N S t0 s)
section rcodings
variable {X : xG} {n : Nat} {MI : Nat → Nat → Int32} {ML : Nat → Nat → Int64} {MR : Nat → Nat → Option Nat}
set_option maxRecDepth 100000 in
theorem c_X11_countsWay (hM : x_Lay MR) {S : Nat} (hS : S ≤ 6) : Cf X yX11_countsWay cX11_countsWay 3 none 1 [.ref 124, .int (nI S)] n SH MI ML MR none (cwM MI S) ML MR := by
  by_cases h : MI 124 52 = 0
  · unfold cwM
    rw [if_pos h]
    refine Ct_of (by decide) (Nat.le_of_ble_eq_true rfl) (fun G hG => ?_)
    have loop : ∀ i, i ≤ S → RW X G RX11 cX11_countsWay 3 (x_rm 1 0 0) n SH (sr MI 151 (copyTo (MI 151) (MI 128) i)) ML MR 0 0 2 [(2, .int (nI i)), (0, .ref 124), (1, .int (nI S))] [] := by
      refine bwd (fun i hi ih => ?_)
      refine r_iload_n 0 rfl dX11_countsWay_2 ?_
      refine r_iload_n 2 rfl dX11_countsWay_3 ?_
      refine r_icmpge (tgt := 32) dX11_countsWay_4 (by decide) (fun zh4 => ?_) (fun zh4 => ?_)
      · obtain rfl : i = S := by have := geL (k := S) (by omega) (by omega) zh4; omega
        refine r_aload_n 1 rfl dX11_countsWay_32 ?_
        refine r_dup rfl dX11_countsWay_33 ?_
        refine r_geti dX11_countsWay_34 fl_X11_486 rfl ?_
        refine r_iconst (v := 1) rfl dX11_countsWay_37 ?_
        refine r_iadd dX11_countsWay_38 ?_
        refine r_puti dX11_countsWay_39 fl_X11_486 rfl rfl rfl ?_
        exact r_vret hG dX11_countsWay_42 (⟨rfl, rfl, rfl, rfl⟩)
      · have hlt : i < S := ltL (by omega) zh4
        refine r_aload_n 1 rfl dX11_countsWay_7 ?_
        refine r_geti dX11_countsWay_8 fl_X11_486 rfl ?_
        refine r_ifne (tgt := 32) dX11_countsWay_11 (by decide) (fun zh11 => ?_) (fun zh11 => ?_)
        · exact absurd zh11 (fun q => q h)
        refine r_aload_n 1 rfl dX11_countsWay_14 ?_
        refine r_getr dX11_countsWay_15 fl_X11_101 rfl (hM _ _ _ rfl) ?_
        refine r_iload_n 0 rfl dX11_countsWay_18 ?_
        refine r_aload_n 1 rfl dX11_countsWay_19 ?_
        refine r_getr dX11_countsWay_20 fl_X11_31 rfl (hM _ _ _ rfl) ?_
        refine r_iload_n 0 rfl dX11_countsWay_23 ?_
        refine r_iald dX11_countsWay_24 rfl (vp_in_nI (show i < 88 by omega) (by decide)) ?_
        refine r_iast dX11_countsWay_25 rfl (vp_in_nI (show i < 6 by omega) (by decide)) ?_
        refine r_iinc (v := (nI (i + 1))) (ls2 := [(2, .int (nI (i + 1))), (0, .ref 124), (1, .int (nI S))]) 0 dX11_countsWay_26 rfl (x_inc i) (by decide) rfl ?_
        refine r_goto (tgt := 2) dX11_countsWay_29 (by decide) ?_
        refine r_sub [0, 1, 2] rfl (r_mem ?_ rfl rfl (ih hlt))
        rw [nI_clamp (by omega)]
        funext b k
        simp only [u2, sr, copyTo]
        grind
    refine r_iconst (v := 0) rfl dX11_countsWay_0 ?_
    refine r_istore_n (ls2 := [(2, .int 0), (0, .ref 124), (1, .int (nI S))]) dX11_countsWay_1 (by decide) rfl ?_
    refine r_sub [0, 1, 2] rfl (r_mem ?_ rfl rfl (loop 0 (Nat.zero_le _)))
    funext b k
    simp only [sr, copyTo]
    grind
  · unfold cwM
    rw [if_neg h]
    refine Ct_of (by decide) (Nat.le_of_ble_eq_true rfl) (fun G hG => ?_)
    refine r_iconst (v := 0) rfl dX11_countsWay_0 ?_
    refine r_istore_n (ls2 := [(2, .int 0), (0, .ref 124), (1, .int (nI S))]) dX11_countsWay_1 (by decide) rfl ?_
    refine r_iload_n 0 rfl dX11_countsWay_2 ?_
    refine r_iload_n 2 rfl dX11_countsWay_3 ?_
    refine r_icmpge (tgt := 32) dX11_countsWay_4 (by decide) (fun zh4 => ?_) (fun zh4 => ?_)
    · refine r_aload_n 1 rfl dX11_countsWay_32 ?_
      refine r_dup rfl dX11_countsWay_33 ?_
      refine r_geti dX11_countsWay_34 fl_X11_486 rfl ?_
      refine r_iconst (v := 1) rfl dX11_countsWay_37 ?_
      refine r_iadd dX11_countsWay_38 ?_
      refine r_puti dX11_countsWay_39 fl_X11_486 rfl rfl rfl ?_
      exact r_vret hG dX11_countsWay_42 (⟨rfl, rfl, rfl, rfl⟩)
    · refine r_aload_n 1 rfl dX11_countsWay_7 ?_
      refine r_geti dX11_countsWay_8 fl_X11_486 rfl ?_
      refine r_ifne (tgt := 32) dX11_countsWay_11 (by decide) (fun zh11 => ?_) (fun zh11 => ?_)
      rotate_left
      · exact absurd zh11 (h)
      refine r_aload_n 1 rfl dX11_countsWay_32 ?_
      refine r_dup rfl dX11_countsWay_33 ?_
      refine r_geti dX11_countsWay_34 fl_X11_486 rfl ?_
      refine r_iconst (v := 1) rfl dX11_countsWay_37 ?_
      refine r_iadd dX11_countsWay_38 ?_
      refine r_puti dX11_countsWay_39 fl_X11_486 rfl rfl rfl ?_
      exact r_vret hG dX11_countsWay_42 (⟨rfl, rfl, rfl, rfl⟩)
set_option maxRecDepth 100000 in
theorem c_X11_nextCodes (hM : x_Lay MR) {S : Nat} (hS : S ≤ 6) {x : Int32} {F : Bool × (Nat → Int32)} (hF : ncS (x - 1) S (MI 128) = F) : Cf X yX11_nextCodes cX11_nextCodes 4 (some .boolean) 1 [.ref 124, .int (nI S), .int x] n SH MI ML MR (some (.int (b2 F.1))) (sr MI 128 F.2) ML MR := by
  refine Ct_of (by decide) (Nat.le_of_ble_eq_true rfl) (fun G hG => ?_)
  have loop : ∀ k, k ≤ 6 → ∀ C, ncS (x - 1) k C = F → ∀ e, e = nI k - 1 → RW X G RX11 cX11_nextCodes 4 (x_rm 1 0 0) n SH (sr MI 128 C) ML MR 0 0 4 [(3, .int e), (0, .ref 124), (1, .int (nI S)), (2, .int x)] [] := by
    intro k
    induction k with
    | zero =>
      intro _ C hC e he
      have hneg : e < 0 := by rw [he]; decide
      refine r_iload_n 0 rfl dX11_nextCodes_4 ?_
      refine r_iflt (tgt := 33) dX11_nextCodes_5 (by decide) (fun zh5 => ?_) (fun zh5 => ?_)
      rotate_left
      · exact absurd zh5 (fun q => q hneg)
      refine r_iload_n 0 rfl dX11_nextCodes_33 ?_
      refine r_iflt (tgt := 47) dX11_nextCodes_34 (by decide) (fun zh34 => ?_) (fun zh34 => ?_)
      rotate_left
      · exact absurd zh34 (fun q => q hneg)
      refine r_iload_n 0 rfl dX11_nextCodes_47 ?_
      refine r_iflt (tgt := 55) dX11_nextCodes_48 (by decide) (fun zh48 => ?_) (fun zh48 => ?_)
      rotate_left
      · exact absurd zh48 (fun q => q hneg)
      refine r_iconst (v := 0) rfl dX11_nextCodes_55 ?_
      exact r_zret hG dX11_nextCodes_56 (rfl) (by rw [← hC]; exact ⟨rfl, rfl, rfl, rfl⟩)
    | succ k ih =>
      intro hk C hC e he
      rw [nI_m1] at he
      subst he
      have hpos : ¬ nI k < 0 := nI_pos (by omega)
      refine r_iload_n 0 rfl dX11_nextCodes_4 ?_
      refine r_iflt (tgt := 33) dX11_nextCodes_5 (by decide) (fun zh5 => ?_) (fun zh5 => ?_)
      · exact absurd zh5 (hpos)
      refine r_aload_n 1 rfl dX11_nextCodes_8 ?_
      refine r_getr dX11_nextCodes_9 fl_X11_31 rfl (hM _ _ _ rfl) ?_
      refine r_iload_n 0 rfl dX11_nextCodes_12 ?_
      refine r_iald dX11_nextCodes_13 rfl (vp_in_nI (show k < 88 by omega) (by decide)) ?_
      refine r_iload_n 3 rfl dX11_nextCodes_14 ?_
      refine r_iconst (v := 1) rfl dX11_nextCodes_15 ?_
      refine r_isub dX11_nextCodes_16 ?_
      refine r_icmpne (tgt := 33) dX11_nextCodes_17 (by decide) (fun zh17 => ?_) (fun zh17 => ?_)
      · rw [nI_clamp (by omega)] at zh17
        have y : ¬ C k = x - 1 := zh17
        rw [ncS, if_neg y] at hC
        refine r_iload_n 0 rfl dX11_nextCodes_33 ?_
        refine r_iflt (tgt := 47) dX11_nextCodes_34 (by decide) (fun zh34 => ?_) (fun zh34 => ?_)
        · exact absurd zh34 (hpos)
        refine r_aload_n 1 rfl dX11_nextCodes_37 ?_
        refine r_getr dX11_nextCodes_38 fl_X11_31 rfl (hM _ _ _ rfl) ?_
        refine r_iload_n 0 rfl dX11_nextCodes_41 ?_
        refine r_dup2 rfl rfl dX11_nextCodes_42 ?_
        refine r_iald dX11_nextCodes_43 rfl (vp_in_nI (show k < 88 by omega) (by decide)) ?_
        refine r_iconst (v := 1) rfl dX11_nextCodes_44 ?_
        refine r_iadd dX11_nextCodes_45 ?_
        refine r_iast dX11_nextCodes_46 rfl (vp_in_nI (show k < 88 by omega) (by decide)) ?_
        refine r_iload_n 0 rfl dX11_nextCodes_47 ?_
        refine r_iflt (tgt := 55) dX11_nextCodes_48 (by decide) (fun zh48 => ?_) (fun zh48 => ?_)
        · exact absurd zh48 (hpos)
        refine r_iconst (v := 1) rfl dX11_nextCodes_51 ?_
        refine r_goto (tgt := 56) dX11_nextCodes_52 (by decide) ?_
        exact r_zret hG dX11_nextCodes_56 (rfl) (by rw [← hC]; refine ⟨rfl, ?_, rfl, rfl⟩; rw [nI_clamp (by omega)]; funext b j; simp only [u2, sr, up]; grind)
      · rw [nI_clamp (by omega)] at zh17
        have y : C k = x - 1 := zh17
        rw [ncS, if_pos y] at hC
        refine r_aload_n 1 rfl dX11_nextCodes_20 ?_
        refine r_getr dX11_nextCodes_21 fl_X11_31 rfl (hM _ _ _ rfl) ?_
        refine r_iload_n 0 rfl dX11_nextCodes_24 ?_
        refine r_iconst (v := 0) rfl dX11_nextCodes_25 ?_
        refine r_iast dX11_nextCodes_26 rfl (vp_in_nI (show k < 88 by omega) (by decide)) ?_
        refine r_iinc (v := (nI k - 1)) (ls2 := [(3, .int (nI k - 1)), (0, .ref 124), (1, .int (nI S)), (2, .int x)]) 0 dX11_nextCodes_27 rfl (nI_d1 _) (by decide) rfl ?_
        refine r_goto (tgt := 4) dX11_nextCodes_30 (by decide) ?_
        refine r_sub [0, 1, 2, 3] rfl (r_mem ?_ rfl rfl (ih (by omega) _ hC _ rfl))
        rw [nI_clamp (by omega)]
        funext b j
        simp only [u2, sr, up]
        grind
  refine r_iload_n 1 rfl dX11_nextCodes_0 ?_
  refine r_iconst (v := 1) rfl dX11_nextCodes_1 ?_
  refine r_isub dX11_nextCodes_2 ?_
  refine r_nmi (fun zv3 ze3 => ?_)
  refine r_istore_n (ls2 := [(3, .int zv3), (0, .ref 124), (1, .int (nI S)), (2, .int x)]) dX11_nextCodes_3 (by decide) rfl ?_
  refine r_sub [0, 1, 2, 3] rfl (r_mem ?_ rfl rfl (loop S hS _ hF _ ze3))
  funext b j
  simp only [sr]
  grind
def tcA (MI : Mi) (i : Nat) : Mi := fun b j => if b = 150 ∧ j < i then MI 128 j else if b = 128 ∧ j < i then 0 else MI b j
def tcB (ML : Nat → Nat → Int64) (i : Nat) : Nat → Nat → Int64 := fun b j => if b = 152 ∧ j < i then ML 137 j else if b = 153 ∧ j < i then ML 138 j else ML b j
def tcE (B : Nat → Nat → Int64) (i : Nat) : Nat → Nat → Int64 := fun b j => if b = 137 ∧ j < i then B 152 j else if b = 138 ∧ j < i then B 153 j else B b j
set_option maxRecDepth 100000 in
theorem c_X11_triesCodes (hM : x_Lay MR) {A S N : Nat} (hA : A ≤ 8) (hS : S ≤ 6) (hSr : MI 130 0 = nI S) (hAr : MI 128 6 = nI A) (hP : okA (arR MI) A S) (hN : 0 < N) (hN4 : N ≤ 4) {f : Nat → Bool} (hf : f = okT (MI 135) (MI 136) (MI 128) (arR MI) S A N (ML 138, ML 137)) : Ct X yX11_triesCodes cX11_triesCodes 5 none 5 0 0 [.ref 124, .int (nI N)] n SH MI ML MR n SH (fun r W B C => r = none ∧ C = MR ∧ tcQ MI ML S N f W B) := by
  have hT : N ^ S ≤ 4096 := by
    have h1 : N ^ S ≤ 4 ^ S := Nat.pow_le_pow_left hN4 S
    have h2 : 4 ^ S ≤ 4 ^ 6 := Nat.pow_le_pow_right (by decide) hS
    exact Nat.le_trans h1 h2
  have hT0 : 0 < N ^ S := Nat.pow_pos hN
  refine Ct_of (by decide) (Nat.le_of_ble_eq_true rfl) (fun G hG => ?_)
  have c0 : (0 : Int32).toNatClampNeg = 0 := rfl
  have l5 : ∀ zW zB, tcI MI ML S N f (N ^ S) zW zB → zW 128 = MI 128 → ∀ i, i ≤ 5 → ∀ z3, RW X G RX11 cX11_triesCodes 5 (x_rm 5 0 0) n SH zW (tcE zB i) MR 0 0 150 [(4, .int (nI i)), (3, .int z3), (2, .int (nI S)), (0, .ref 124), (1, .int (nI N))] [] := by
    intro zW zB hI h128
    refine bwd (fun i hi ih z3 => ?_)
    refine r_iload 0 rfl dX11_triesCodes_150 ?_
    refine r_iconst (v := 5) rfl dX11_triesCodes_152 ?_
    refine r_icmpge (tgt := 190) dX11_triesCodes_153 (by decide) (fun zh153 => ?_) (fun zh153 => ?_)
    · obtain rfl : i = 5 := by have := geL (k := 5) (by decide) (by omega) zh153; omega
      exact r_vret hG dX11_triesCodes_190 (by
          obtain ⟨i1, i2, i3, i4, i5, i6, i7, i8, i9⟩ := hI
          refine ⟨rfl, rfl, fun b h1 h2 h3 => ?_, i2, fun b h1 h2 => ?_, i5, i6⟩
          · by_cases e : b = 128
            · rw [e]; exact h128
            · exact i1 b h1 e h2 h3
          · funext k
            unfold tcE
            by_cases e7 : b = 137
            · rw [e7]
              by_cases hk : k < 5
              · rw [if_pos ⟨rfl, hk⟩]; exact (i8 k hk).1
              · rw [if_neg (fun z => hk z.2), if_neg (fun z => absurd z.1 (by decide))]; exact (i9 k (by omega)).2
            · rw [if_neg (fun z => e7 z.1)]
              by_cases e8 : b = 138
              · rw [e8]
                by_cases hk : k < 5
                · rw [if_pos ⟨rfl, hk⟩]; exact (i8 k hk).2
                · rw [if_neg (fun z => hk z.2)]; exact (i9 k (by omega)).1
              · rw [if_neg (fun z => e8 z.1), i7 b e7 e8 h1 h2])
    · have hlt : i < 5 := ltL (by omega) zh153
      refine r_aload_n 3 rfl dX11_triesCodes_156 ?_
      refine r_getr dX11_triesCodes_157 fl_X11_59 rfl (hM _ _ _ rfl) ?_
      refine r_iload 0 rfl dX11_triesCodes_160 ?_
      refine r_aload_n 3 rfl dX11_triesCodes_162 ?_
      refine r_getr dX11_triesCodes_163 fl_X11_104 rfl (hM _ _ _ rfl) ?_
      refine r_iload 0 rfl dX11_triesCodes_166 ?_
      refine r_lald dX11_triesCodes_168 rfl (vp_in_nI hlt (by decide)) ?_
      refine r_last dX11_triesCodes_169 rfl (vp_in_nI hlt (by decide)) ?_
      refine r_aload_n 3 rfl dX11_triesCodes_170 ?_
      refine r_getr dX11_triesCodes_171 fl_X11_62 rfl (hM _ _ _ rfl) ?_
      refine r_iload 0 rfl dX11_triesCodes_174 ?_
      refine r_aload_n 3 rfl dX11_triesCodes_176 ?_
      refine r_getr dX11_triesCodes_177 fl_X11_107 rfl (hM _ _ _ rfl) ?_
      refine r_iload 0 rfl dX11_triesCodes_180 ?_
      refine r_lald dX11_triesCodes_182 rfl (vp_in_nI hlt (by decide)) ?_
      refine r_last dX11_triesCodes_183 rfl (vp_in_nI hlt (by decide)) ?_
      refine r_iinc (v := (nI (i + 1))) (ls2 := [(4, .int (nI (i + 1))), (3, .int z3), (2, .int (nI S)), (0, .ref 124), (1, .int (nI N))]) 0 dX11_triesCodes_184 rfl (x_inc i) (by decide) rfl ?_
      refine r_goto (tgt := 150) dX11_triesCodes_187 (by decide) ?_
      refine r_sub [0, 1, 2, 3, 4] rfl (r_mem rfl ?_ rfl (ih hlt z3))
      rw [nI_clamp (by omega)]
      funext b k
      simp only [u2, tcE]
      grind
  have l4 : ∀ zW zB, tcI MI ML S N f (N ^ S) zW zB → ∀ i, i ≤ S → ∀ z3, RW X G RX11 cX11_triesCodes 5 (x_rm 5 0 0) n SH (sr zW 128 (copyTo (zW 128) (zW 150) i)) zB MR 0 0 121 [(4, .int (nI i)), (3, .int z3), (2, .int (nI S)), (0, .ref 124), (1, .int (nI N))] [] := by
    intro zW zB hI
    refine bwd (fun i hi ih z3 => ?_)
    refine r_iload 0 rfl dX11_triesCodes_121 ?_
    refine r_iload_n 2 rfl dX11_triesCodes_123 ?_
    refine r_icmpge (tgt := 147) dX11_triesCodes_124 (by decide) (fun zh124 => ?_) (fun zh124 => ?_)
    · have hie : i = S := by have := geL (k := S) (by omega) (by omega) zh124; omega
      refine r_iconst (v := 0) rfl dX11_triesCodes_147 ?_
      refine r_istore (ls2 := [(4, .int 0), (3, .int z3), (2, .int (nI S)), (0, .ref 124), (1, .int (nI N))]) dX11_triesCodes_148 (by decide) rfl ?_
      obtain ⟨i1, i2, i3, i4, i5, i6, i7, i8, i9⟩ := hI
      refine r_sub [0, 1, 2, 3, 4] rfl (r_mem rfl ?_ rfl (l5 (sr zW 128 (copyTo (zW 128) (zW 150) i)) zB ⟨fun b h1 h2 h3 h4 => ?_, i2, fun s hs => ?_, i4, i5, i6, i7, i8, i9⟩ ?_ 0 (by decide) z3))
      · funext b k
        unfold tcE
        rw [if_neg (fun z => absurd z.2 (Nat.not_lt_zero _)), if_neg (fun z => absurd z.2 (Nat.not_lt_zero _))]
      · funext k
        show (if b = 128 then _ else _) = _
        rw [if_neg h2, i1 b h1 h2 h3 h4]
      · show copyTo (zW 128) (zW 150) i s = _
        unfold copyTo
        rw [if_neg (by omega)]
        exact i3 s hs
      · funext k
        show copyTo (zW 128) (zW 150) i k = _
        unfold copyTo
        rw [hie]
        split
        · rename_i hk
          exact i4 k hk
        · rename_i hk
          exact i3 k (by omega)
    · have hlt : i < S := ltL (by omega) zh124
      refine r_aload_n 3 rfl dX11_triesCodes_127 ?_
      refine r_getr dX11_triesCodes_128 fl_X11_31 rfl (hM _ _ _ rfl) ?_
      refine r_iload 0 rfl dX11_triesCodes_131 ?_
      refine r_aload_n 3 rfl dX11_triesCodes_133 ?_
      refine r_getr dX11_triesCodes_134 fl_X11_98 rfl (hM _ _ _ rfl) ?_
      refine r_iload 0 rfl dX11_triesCodes_137 ?_
      refine r_iald dX11_triesCodes_139 rfl (vp_in_nI (show i < 6 by omega) (by decide)) ?_
      refine r_iast dX11_triesCodes_140 rfl (vp_in_nI (show i < 88 by omega) (by decide)) ?_
      refine r_iinc (v := (nI (i + 1))) (ls2 := [(4, .int (nI (i + 1))), (3, .int z3), (2, .int (nI S)), (0, .ref 124), (1, .int (nI N))]) 0 dX11_triesCodes_141 rfl (x_inc i) (by decide) rfl ?_
      refine r_goto (tgt := 121) dX11_triesCodes_144 (by decide) ?_
      refine r_sub [0, 1, 2, 3, 4] rfl (r_mem ?_ rfl rfl (ih hlt z3))
      rw [nI_clamp (by omega)]
      funext b k
      simp only [u2, sr, copyTo]
      grind
  have l3 : ∀ t, t ≤ N ^ S → t < N ^ S → ∀ zW zB, tcI MI ML S N f t zW zB → (∀ s, s < S → zW 128 s = nI (odg N S t s)) → RW X G RX11 cX11_triesCodes 5 (x_rm 5 0 0) n SH zW zB MR 0 0 83 [(3, .int 1), (2, .int (nI S)), (0, .ref 124), (1, .int (nI N))] [] := by
    refine bwd (fun t ht ih htl zW zB hI hC => ?_)
    have e128 : zW 128 = ocF (MI 128) S N t := by
      funext s
      unfold ocF
      split
      · rename_i hs; exact hC s hs
      · rename_i hs; exact hI.2.2.1 s (by omega)
    have e135 : zW 135 = MI 135 := hI.1 135 (by decide) (by decide) (by decide) (by decide)
    have e136 : zW 136 = MI 136 := hI.1 136 (by decide) (by decide) (by decide) (by decide)
    have eP : arR zW = arR MI := by
      funext i j
      exact hI.2.2.1 _ (by omega)
    have hSr2 : zW 130 0 = nI S := by rw [hI.1 130 (by decide) (by decide) (by decide) (by decide)]; exact hSr
    have hAr2 : zW 128 6 = nI A := by rw [hI.2.2.1 6 hS]; exact hAr
    have hP2 : okA (arR zW) A S := by rw [eP]; exact hP
    obtain ⟨zc, hzc⟩ : ∃ zc, zc = clA (zW 135) (zW 136) (zW 128) (arR zW) S A (zB 138, zB 137) := ⟨_, rfl⟩
    have hzc2 : zc = clA (MI 135) (MI 136) (ocF (MI 128) S N t) (arR MI) S A (ML 138, ML 137) := by
      rw [hzc, e135, e136, e128, eP]
      exact clA_hi hI.2.2.2.2.2.2.2.2
    have hft : f t = (decide (unlO (zW 135) (zW 136) (zW 128) S = none) && decide (zc.2 = none)) := by rw [hf, hzc2, e135, e136, e128]; rfl
    have hhi : hiD (zB 138, zB 137) zc.1 := by rw [hzc]; exact hiD_C _
    have hlB : ∀ zB2, zB2 = layD zB 138 137 zc.1 → (∀ b, b ≠ 137 → b ≠ 138 → b ≠ 152 → b ≠ 153 → zB2 b = ML b) ∧ (∀ k, k < 5 → zB2 152 k = ML 137 k ∧ zB2 153 k = ML 138 k) ∧ hiD (ML 138, ML 137) (zB2 138, zB2 137) := fun zB2 e => by
      obtain ⟨i1, i2, i3, i4, i5, i6, i7, i8, i9⟩ := hI
      rw [e]
      refine ⟨fun b h1 h2 h3 h4 => ?_, fun k hk => ⟨(i8 k hk).1, (i8 k hk).2⟩, ?_⟩
      · funext k
        simp only [layD, sr]
        rw [if_neg h1, if_neg h2, i7 b h1 h2 h3 h4]
      · rw [layD_o, layD_z (by decide)]
        exact hiD_tr i9 hhi
    have aft : ∀ zW2 zB2, tcI MI ML S N f (t + 1) zW2 zB2 → (∀ s, s < S → zW2 128 s = nI (odg N S t s)) → RW X G RX11 cX11_triesCodes 5 (x_rm 5 0 0) n SH zW2 zB2 MR 0 0 108 [(3, .int 1), (2, .int (nI S)), (0, .ref 124), (1, .int (nI N))] [] := by
      intro zW2 zB2 hI2 hC2
      obtain ⟨F, hF⟩ : ∃ F, ncS (nI N - 1) S (zW2 128) = F := ⟨_, rfl⟩
      obtain ⟨d1, d2⟩ := ncS_dg hN hN4 S t (zW2 128) htl hC2
      rw [hF] at d1 d2
      have hI3 : tcI MI ML S N f (t + 1) (sr zW2 128 F.2) zB2 := by
        obtain ⟨i1, i2, i3, i4, i5, i6, i7, i8, i9⟩ := hI2
        refine ⟨fun b h1 h2 h3 h4 => ?_, i2, fun s hs => ?_, i4, i5, i6, i7, i8, i9⟩
        · funext k
          show (if b = 128 then _ else _) = _
          rw [if_neg h2, i1 b h1 h2 h3 h4]
        · show F.2 s = _
          rw [← hF, ncS_ge _ _ _ hs]
          exact i3 s hs
      by_cases hlt : t + 1 < N ^ S
      · have hb : b2 F.1 = 1 := by rw [d1, decide_eq_true hlt]; rfl
        refine r_aload_n 2 rfl dX11_triesCodes_108 ?_
        refine r_iload_n 1 rfl dX11_triesCodes_109 ?_
        refine r_iload_n 3 rfl dX11_triesCodes_110 ?_
        refine r_Vf [.int _, .int _] dX11_triesCodes_111 lk_X11_492 mb_X11_nextCodes in_X11_nextCodes se_X11_nextCodes rfl (c_X11_nextCodes hM hS hF) rfl rfl rfl (Nat.le_of_ble_eq_true rfl) (rfl) ?_
        rw [hb]
        refine r_istore_n (ls2 := [(3, .int 1), (2, .int (nI S)), (0, .ref 124), (1, .int (nI N))]) dX11_triesCodes_114 (by decide) rfl ?_
        refine r_goto (tgt := 83) dX11_triesCodes_115 (by decide) ?_
        exact r_sub [0, 1, 2, 3] rfl (ih htl hlt _ _ hI3 (fun s hs => d2 hlt s hs))
      · have hb : b2 F.1 = 0 := by rw [d1, decide_eq_false hlt]; rfl
        have he : t + 1 = N ^ S := by omega
        rw [he] at hI3
        refine r_aload_n 2 rfl dX11_triesCodes_108 ?_
        refine r_iload_n 1 rfl dX11_triesCodes_109 ?_
        refine r_iload_n 3 rfl dX11_triesCodes_110 ?_
        refine r_Vf [.int _, .int _] dX11_triesCodes_111 lk_X11_492 mb_X11_nextCodes in_X11_nextCodes se_X11_nextCodes rfl (c_X11_nextCodes hM hS hF) rfl rfl rfl (Nat.le_of_ble_eq_true rfl) (rfl) ?_
        rw [hb]
        refine r_istore_n (ls2 := [(3, .int 0), (2, .int (nI S)), (0, .ref 124), (1, .int (nI N))]) dX11_triesCodes_114 (by decide) rfl ?_
        refine r_goto (tgt := 83) dX11_triesCodes_115 (by decide) ?_
        refine r_iload_n 0 rfl dX11_triesCodes_83 ?_
        refine r_ifeq (tgt := 118) dX11_triesCodes_84 (by decide) (fun zh84 => ?_) (fun zh84 => ?_)
        rotate_left
        · exact absurd zh84 (fun q => q rfl)
        refine r_iconst (v := 0) rfl dX11_triesCodes_118 ?_
        refine r_istore (ls2 := [(4, .int 0), (3, .int 0), (2, .int (nI S)), (0, .ref 124), (1, .int (nI N))]) dX11_triesCodes_119 (by decide) rfl ?_
        refine r_sub [0, 1, 2, 3, 4] rfl (r_mem ?_ rfl rfl (l4 _ _ hI3 0 (Nat.zero_le _) 0))
        funext b k
        simp only [sr, copyTo]
        grind
    have no : f t = false → ∀ zB2, (∀ b, b ≠ 137 → b ≠ 138 → b ≠ 152 → b ≠ 153 → zB2 b = ML b) → (∀ k, k < 5 → zB2 152 k = ML 137 k ∧ zB2 153 k = ML 138 k) → hiD (ML 138, ML 137) (zB2 138, zB2 137) → tcI MI ML S N f (t + 1) zW zB2 := by
      intro h0 zB2 j1 j2 j3
      obtain ⟨i1, i2, i3, i4, i5, i6, i7, i8, i9⟩ := hI
      refine ⟨i1, i2, i3, i4, ?_, fun t0 ht0 => ?_, j1, j2, j3⟩
      · rw [i5, owy, if_neg (by rw [h0]; decide)]
        rfl
      · rw [List.range_succ, List.find?_append, List.find?_singleton, if_neg (by rw [h0]; decide), Option.or_none] at ht0
        exact i6 t0 ht0
    have yes : f t = true → ∀ zB2, (∀ b, b ≠ 137 → b ≠ 138 → b ≠ 152 → b ≠ 153 → zB2 b = ML b) → (∀ k, k < 5 → zB2 152 k = ML 137 k ∧ zB2 153 k = ML 138 k) → hiD (ML 138, ML 137) (zB2 138, zB2 137) → tcI MI ML S N f (t + 1) (cwM zW S) zB2 ∧ cwM zW S 128 = zW 128 := by
      intro h1 zB2 j1 j2 j3
      obtain ⟨i1, i2, i3, i4, i5, i6, i7, i8, i9⟩ := hI
      have hle := owy_le f t
      have e52 : zW 124 52 + 1 = nI (owy f (t + 1)) := by rw [i5, owy, if_pos h1]; exact nI_1 _
      by_cases h0 : zW 124 52 = 0
      · have hn : (List.range t).find? f = none := owy_0 t |>.mp ((nI_eq (b := 0) (by omega) (by decide)).mp (i5.symm.trans h0))
        unfold cwM
        rw [if_pos h0, e52]
        refine ⟨⟨fun b g1 g2 g3 g4 => ?_, fun j hj => ?_, fun s hs => ?_, fun s hs => ?_, u2_eq _ _ _ _, fun t0 ht0 s hs => ?_, j1, j2, j3⟩, ?_⟩
        · rw [u2_row _ _ g1]
          funext k
          show (if b = 151 then _ else _) = _
          rw [if_neg g4, i1 b g1 g2 g3 g4]
        · rw [u2_ne _ _ (by omega)]
          exact i2 j hj
        · rw [u2_ne _ _ (by omega)]
          exact i3 s hs
        · rw [u2_ne _ _ (by omega)]
          exact i4 s hs
        · rw [List.range_succ, List.find?_append, hn, List.find?_singleton, if_pos h1] at ht0
          cases ht0
          rw [u2_ne _ _ (by omega)]
          show copyTo (zW 151) (zW 128) S s = _
          unfold copyTo
          rw [if_pos hs]
          exact hC s hs
        · rw [u2_row _ _ (by decide)]
          rfl
      · have hn : ¬ (List.range t).find? f = none := fun z => h0 (i5.trans (congrArg nI ((owy_0 t).mpr z)))
        unfold cwM
        rw [if_neg h0, e52]
        refine ⟨⟨fun b g1 g2 g3 g4 => ?_, fun j hj => ?_, fun s hs => ?_, fun s hs => ?_, u2_eq _ _ _ _, fun t0 ht0 s hs => ?_, j1, j2, j3⟩, ?_⟩
        · rw [u2_row _ _ g1]
          exact i1 b g1 g2 g3 g4
        · rw [u2_ne _ _ (by omega)]
          exact i2 j hj
        · rw [u2_ne _ _ (by omega)]
          exact i3 s hs
        · rw [u2_ne _ _ (by omega)]
          exact i4 s hs
        · obtain ⟨t1, ht1⟩ := Option.ne_none_iff_exists'.mp hn
          rw [List.range_succ, List.find?_append, ht1] at ht0
          cases ht0
          rw [u2_ne _ _ (by omega)]
          exact i6 _ ht1 s hs
        · exact u2_row _ _ (by decide)
    have hun := optI_ne (q := unlO (zW 135) (zW 136) (zW 128) S) (A := 6) (by decide) (fun i h => Nat.lt_of_lt_of_le (unlO_lt h) hS)
    have hcl := optI_ne (q := zc.2) (A := 8) (by decide) (fun i h => by rw [hzc] at h; have := clL_lt _ _ _ _ h; omega)
    obtain ⟨y7, y8, y9⟩ := hlB _ rfl
    refine r_iload_n 0 rfl dX11_triesCodes_83 ?_
    refine r_ifeq (tgt := 118) dX11_triesCodes_84 (by decide) (fun zh84 => ?_) (fun zh84 => ?_)
    · exact absurd zh84 (by decide)
    refine r_aload_n 2 rfl dX11_triesCodes_87 ?_
    refine r_Vf [] dX11_triesCodes_88 lk_X11_329 mb_X11_unlikeState in_X11_unlikeState se_X11_unlikeState rfl (s_unlikeState hM hS hSr2) rfl rfl rfl (Nat.le_of_ble_eq_true rfl) (rfl) ?_
    refine r_iconst (v := (-1)) rfl dX11_triesCodes_91 ?_
    refine r_icmpne (tgt := 108) dX11_triesCodes_92 (by decide) (fun zh92 => ?_) (fun zh92 => ?_)
    · first
        | (have zq1 : unlO (zW 135) (zW 136) (zW 128) S = none := hun.mp (Classical.not_not.mp zh92)
           have zq2 : zc.2 = none := hcl.mp (Classical.not_not.mp zh100)
           have zq3 : f t = true := by rw [hft, decide_eq_true zq1, decide_eq_true zq2]; rfl
           obtain ⟨zq4, zq5⟩ := yes zq3 _ y7 y8 y9
           exact r_sub [0, 1, 2, 3] rfl (aft _ _ zq4 (fun s hs => by rw [zq5]; exact hC s hs)))
        | (have zq1 : unlO (zW 135) (zW 136) (zW 128) S = none := hun.mp zh92
           have zq2 : zc.2 = none := hcl.mp zh100
           have zq3 : f t = true := by rw [hft, decide_eq_true zq1, decide_eq_true zq2]; rfl
           obtain ⟨zq4, zq5⟩ := yes zq3 _ y7 y8 y9
           exact r_sub [0, 1, 2, 3] rfl (aft _ _ zq4 (fun s hs => by rw [zq5]; exact hC s hs)))
        | (have zq2 : ¬ zc.2 = none := fun z => zh100 (hcl.mpr z)
           have zq3 : f t = false := by rw [hft, decide_eq_false zq2, Bool.and_false]
           exact r_sub [0, 1, 2, 3] rfl (aft _ _ (no zq3 _ y7 y8 y9) hC))
        | (have zq2 : ¬ unlO (zW 135) (zW 136) (zW 128) S = none := fun z => zh92 (hun.mpr z)
           have zq3 : f t = false := by rw [hft, decide_eq_false zq2]; rfl
           exact r_sub [0, 1, 2, 3] rfl (aft _ _ (no zq3 _ hI.2.2.2.2.2.2.1 hI.2.2.2.2.2.2.2.1 hI.2.2.2.2.2.2.2.2) hC))
    · refine r_aload_n 2 rfl dX11_triesCodes_95 ?_
      refine r_Vf [] dX11_triesCodes_96 lk_X11_332 mb_X11_clashingArc in_X11_clashingArc se_X11_clashingArc rfl (s_clashingArc hM hA hS hSr2 hAr2 hP2 hzc) rfl rfl rfl (Nat.le_of_ble_eq_true rfl) (rfl) ?_
      refine r_iconst (v := (-1)) rfl dX11_triesCodes_99 ?_
      refine r_icmpne (tgt := 108) dX11_triesCodes_100 (by decide) (fun zh100 => ?_) (fun zh100 => ?_)
      · first
          | (have zq1 : unlO (zW 135) (zW 136) (zW 128) S = none := hun.mp (Classical.not_not.mp zh92)
             have zq2 : zc.2 = none := hcl.mp (Classical.not_not.mp zh100)
             have zq3 : f t = true := by rw [hft, decide_eq_true zq1, decide_eq_true zq2]; rfl
             obtain ⟨zq4, zq5⟩ := yes zq3 _ y7 y8 y9
             exact r_sub [0, 1, 2, 3] rfl (aft _ _ zq4 (fun s hs => by rw [zq5]; exact hC s hs)))
          | (have zq1 : unlO (zW 135) (zW 136) (zW 128) S = none := hun.mp zh92
             have zq2 : zc.2 = none := hcl.mp zh100
             have zq3 : f t = true := by rw [hft, decide_eq_true zq1, decide_eq_true zq2]; rfl
             obtain ⟨zq4, zq5⟩ := yes zq3 _ y7 y8 y9
             exact r_sub [0, 1, 2, 3] rfl (aft _ _ zq4 (fun s hs => by rw [zq5]; exact hC s hs)))
          | (have zq2 : ¬ zc.2 = none := fun z => zh100 (hcl.mpr z)
             have zq3 : f t = false := by rw [hft, decide_eq_false zq2, Bool.and_false]
             exact r_sub [0, 1, 2, 3] rfl (aft _ _ (no zq3 _ y7 y8 y9) hC))
          | (have zq2 : ¬ unlO (zW 135) (zW 136) (zW 128) S = none := fun z => zh92 (hun.mpr z)
             have zq3 : f t = false := by rw [hft, decide_eq_false zq2]; rfl
             exact r_sub [0, 1, 2, 3] rfl (aft _ _ (no zq3 _ hI.2.2.2.2.2.2.1 hI.2.2.2.2.2.2.2.1 hI.2.2.2.2.2.2.2.2) hC))
      · refine r_aload_n 2 rfl dX11_triesCodes_103 ?_
        refine r_iload_n 1 rfl dX11_triesCodes_104 ?_
        refine r_Vn [.int _] dX11_triesCodes_105 lk_X11_489 mb_X11_countsWay in_X11_countsWay se_X11_countsWay rfl (c_X11_countsWay hM hS) rfl rfl rfl (Nat.le_of_ble_eq_true rfl) (rfl) ?_
        first
          | (have zq1 : unlO (zW 135) (zW 136) (zW 128) S = none := hun.mp (Classical.not_not.mp zh92)
             have zq2 : zc.2 = none := hcl.mp (Classical.not_not.mp zh100)
             have zq3 : f t = true := by rw [hft, decide_eq_true zq1, decide_eq_true zq2]; rfl
             obtain ⟨zq4, zq5⟩ := yes zq3 _ y7 y8 y9
             exact r_sub [0, 1, 2, 3] rfl (aft _ _ zq4 (fun s hs => by rw [zq5]; exact hC s hs)))
          | (have zq1 : unlO (zW 135) (zW 136) (zW 128) S = none := hun.mp zh92
             have zq2 : zc.2 = none := hcl.mp zh100
             have zq3 : f t = true := by rw [hft, decide_eq_true zq1, decide_eq_true zq2]; rfl
             obtain ⟨zq4, zq5⟩ := yes zq3 _ y7 y8 y9
             exact r_sub [0, 1, 2, 3] rfl (aft _ _ zq4 (fun s hs => by rw [zq5]; exact hC s hs)))
          | (have zq2 : ¬ zc.2 = none := fun z => zh100 (hcl.mpr z)
             have zq3 : f t = false := by rw [hft, decide_eq_false zq2, Bool.and_false]
             exact r_sub [0, 1, 2, 3] rfl (aft _ _ (no zq3 _ y7 y8 y9) hC))
          | (have zq2 : ¬ unlO (zW 135) (zW 136) (zW 128) S = none := fun z => zh92 (hun.mpr z)
             have zq3 : f t = false := by rw [hft, decide_eq_false zq2]; rfl
             exact r_sub [0, 1, 2, 3] rfl (aft _ _ (no zq3 _ hI.2.2.2.2.2.2.1 hI.2.2.2.2.2.2.2.1 hI.2.2.2.2.2.2.2.2) hC))
  have l2 : ∀ i, i ≤ 5 → RW X G RX11 cX11_triesCodes 5 (x_rm 5 0 0) n SH (tcA MI S) (tcB ML i) MR 0 0 41 [(3, .int (nI i)), (2, .int (nI S)), (0, .ref 124), (1, .int (nI N))] [] := by
    refine bwd (fun i hi ih => ?_)
    refine r_iload_n 0 rfl dX11_triesCodes_41 ?_
    refine r_iconst (v := 5) rfl dX11_triesCodes_42 ?_
    refine r_icmpge (tgt := 76) dX11_triesCodes_43 (by decide) (fun zh43 => ?_) (fun zh43 => ?_)
    · obtain rfl : i = 5 := by have := geL (k := 5) (by decide) (by omega) zh43; omega
      refine r_aload_n 2 rfl dX11_triesCodes_76 ?_
      refine r_iconst (v := 0) rfl dX11_triesCodes_77 ?_
      refine r_puti dX11_triesCodes_78 fl_X11_486 rfl rfl rfl ?_
      refine r_iconst (v := 1) rfl dX11_triesCodes_81 ?_
      refine r_istore_n (ls2 := [(3, .int 1), (2, .int (nI S)), (0, .ref 124), (1, .int (nI N))]) dX11_triesCodes_82 (by decide) rfl ?_
      refine r_sub [0, 1, 2, 3] rfl (l3 0 (Nat.zero_le _) hT0 _ _ ⟨fun b h1 h2 h3 h4 => ?_, fun j hj => ?_, fun s hs => ?_, fun s hs => ?_, u2_eq _ _ _ _, (fun t0 ht0 => by cases ht0), fun b h1 h2 h3 h4 => ?_, fun k hk => ⟨?_, ?_⟩, fun k hk => ⟨rfl, rfl⟩⟩ (fun s hs => ?_))
      · rw [u2_row _ _ h1]
        funext k
        unfold tcA
        rw [if_neg (fun z => h3 z.1), if_neg (fun z => h2 z.1)]
      · rw [u2_ne _ _ (by omega)]
        unfold tcA
        rw [if_neg (fun z => absurd z.1 (by decide)), if_neg (fun z => absurd z.1 (by decide))]
      · rw [u2_ne _ _ (by omega)]
        unfold tcA
        rw [if_neg (fun z => absurd z.1 (by decide)), if_neg (fun z => by omega)]
      · rw [u2_ne _ _ (by omega)]
        unfold tcA
        rw [if_pos ⟨rfl, hs⟩]
      · funext k
        unfold tcB
        rw [if_neg (fun z => h3 z.1), if_neg (fun z => h4 z.1)]
      · unfold tcB
        rw [if_pos ⟨rfl, hk⟩]
      · unfold tcB
        rw [if_neg (fun z => absurd z.1 (by decide)), if_pos ⟨rfl, hk⟩]
      · rw [u2_ne _ _ (by omega), odg_0]
        unfold tcA
        rw [if_neg (fun z => absurd z.1 (by decide)), if_pos ⟨rfl, hs⟩]
        rfl
    · have hlt : i < 5 := ltL (by omega) zh43
      refine r_aload_n 2 rfl dX11_triesCodes_46 ?_
      refine r_getr dX11_triesCodes_47 fl_X11_104 rfl (hM _ _ _ rfl) ?_
      refine r_iload_n 0 rfl dX11_triesCodes_50 ?_
      refine r_aload_n 2 rfl dX11_triesCodes_51 ?_
      refine r_getr dX11_triesCodes_52 fl_X11_59 rfl (hM _ _ _ rfl) ?_
      refine r_iload_n 0 rfl dX11_triesCodes_55 ?_
      refine r_lald dX11_triesCodes_56 rfl (vp_in_nI hlt (by decide)) ?_
      refine r_last dX11_triesCodes_57 rfl (vp_in_nI hlt (by decide)) ?_
      refine r_aload_n 2 rfl dX11_triesCodes_58 ?_
      refine r_getr dX11_triesCodes_59 fl_X11_107 rfl (hM _ _ _ rfl) ?_
      refine r_iload_n 0 rfl dX11_triesCodes_62 ?_
      refine r_aload_n 2 rfl dX11_triesCodes_63 ?_
      refine r_getr dX11_triesCodes_64 fl_X11_62 rfl (hM _ _ _ rfl) ?_
      refine r_iload_n 0 rfl dX11_triesCodes_67 ?_
      refine r_lald dX11_triesCodes_68 rfl (vp_in_nI hlt (by decide)) ?_
      refine r_last dX11_triesCodes_69 rfl (vp_in_nI hlt (by decide)) ?_
      refine r_iinc (v := (nI (i + 1))) (ls2 := [(3, .int (nI (i + 1))), (2, .int (nI S)), (0, .ref 124), (1, .int (nI N))]) 0 dX11_triesCodes_70 rfl (x_inc i) (by decide) rfl ?_
      refine r_goto (tgt := 41) dX11_triesCodes_73 (by decide) ?_
      refine r_sub [0, 1, 2, 3] rfl (r_mem rfl ?_ rfl (ih hlt))
      rw [nI_clamp (by omega)]
      funext b k
      simp only [u2, tcB]
      grind
  have l1 : ∀ i, i ≤ S → RW X G RX11 cX11_triesCodes 5 (x_rm 5 0 0) n SH (tcA MI i) ML MR 0 0 9 [(3, .int (nI i)), (2, .int (nI S)), (0, .ref 124), (1, .int (nI N))] [] := by
    refine bwd (fun i hi ih => ?_)
    refine r_iload_n 0 rfl dX11_triesCodes_9 ?_
    refine r_iload_n 1 rfl dX11_triesCodes_10 ?_
    refine r_icmpge (tgt := 39) dX11_triesCodes_11 (by decide) (fun zh11 => ?_) (fun zh11 => ?_)
    · have hie : i = S := by have := geL (k := S) (by omega) (by omega) zh11; omega
      refine r_iconst (v := 0) rfl dX11_triesCodes_39 ?_
      refine r_istore_n (ls2 := [(3, .int 0), (2, .int (nI S)), (0, .ref 124), (1, .int (nI N))]) dX11_triesCodes_40 (by decide) rfl ?_
      refine r_sub [0, 1, 2, 3] rfl (r_mem (by rw [hie]) ?_ rfl (l2 0 (by decide)))
      funext b k
      simp only [tcB]
      grind
    · have hlt : i < S := ltL (by omega) zh11
      refine r_aload_n 2 rfl dX11_triesCodes_14 ?_
      refine r_getr dX11_triesCodes_15 fl_X11_98 rfl (hM _ _ _ rfl) ?_
      refine r_iload_n 0 rfl dX11_triesCodes_18 ?_
      refine r_aload_n 2 rfl dX11_triesCodes_19 ?_
      refine r_getr dX11_triesCodes_20 fl_X11_31 rfl (hM _ _ _ rfl) ?_
      refine r_iload_n 0 rfl dX11_triesCodes_23 ?_
      refine r_iald dX11_triesCodes_24 rfl (vp_in_nI (show i < 88 by omega) (by decide)) ?_
      refine r_iast dX11_triesCodes_25 rfl (vp_in_nI (show i < 6 by omega) (by decide)) ?_
      refine r_aload_n 2 rfl dX11_triesCodes_26 ?_
      refine r_getr dX11_triesCodes_27 fl_X11_31 rfl (hM _ _ _ rfl) ?_
      refine r_iload_n 0 rfl dX11_triesCodes_30 ?_
      refine r_iconst (v := 0) rfl dX11_triesCodes_31 ?_
      refine r_iast dX11_triesCodes_32 rfl (vp_in_nI (show i < 88 by omega) (by decide)) ?_
      refine r_iinc (v := (nI (i + 1))) (ls2 := [(3, .int (nI (i + 1))), (2, .int (nI S)), (0, .ref 124), (1, .int (nI N))]) 0 dX11_triesCodes_33 rfl (x_inc i) (by decide) rfl ?_
      refine r_goto (tgt := 9) dX11_triesCodes_36 (by decide) ?_
      refine r_sub [0, 1, 2, 3] rfl (r_mem ?_ rfl rfl (ih hlt))
      rw [nI_clamp (by omega)]
      funext b k
      simp only [u2, tcA]
      grind
  refine r_aload_n 0 rfl dX11_triesCodes_0 ?_
  refine r_getr dX11_triesCodes_1 fl_X11_37 rfl (hM _ _ _ rfl) ?_
  refine r_iconst (v := 0) rfl dX11_triesCodes_4 ?_
  refine r_iald dX11_triesCodes_5 rfl (vpk (k := 0) (by decide) (by decide) rfl) ?_
  rw [c0, hSr]
  refine r_istore_n (ls2 := [(2, .int (nI S)), (0, .ref 124), (1, .int (nI N))]) dX11_triesCodes_6 (by decide) rfl ?_
  refine r_iconst (v := 0) rfl dX11_triesCodes_7 ?_
  refine r_istore_n (ls2 := [(3, .int 0), (2, .int (nI S)), (0, .ref 124), (1, .int (nI N))]) dX11_triesCodes_8 (by decide) rfl ?_
  refine r_sub [0, 1, 2, 3] rfl (r_mem ?_ rfl rfl (l1 0 (Nat.zero_le _)))
  funext b k
  simp only [tcA]
  grind
end rcodings
/-! refusesCodes, codings, coding -/
def rcN (V : Mi) (bo : Bool) (x : Int32) : Int32 := if bo = false then 1 else if inB (V 124 27) 1 4 = true then 5 else if inB x 1 4 = true then 0 else 2
theorem rcN_le {V : Mi} {bo : Bool} {x : Int32} : rcN V bo x ≤ 0 ↔ rcN V bo x = 0 := by
  unfold rcN
  split
  · exact ⟨fun h => absurd h (by decide), fun h => absurd h (by decide)⟩
  · split
    · exact ⟨fun h => absurd h (by decide), fun h => absurd h (by decide)⟩
    · split
      · exact ⟨fun _ => rfl, fun _ => by decide⟩
      · exact ⟨fun h => absurd h (by decide), fun h => absurd h (by decide)⟩
theorem rcN_0 {V : Mi} {bo : Bool} {x : Int32} (h : rcN V bo x = 0) : bo = true ∧ ∃ N, 0 < N ∧ N ≤ 4 ∧ x = nI N := by
  unfold rcN at h
  split at h
  · exact absurd h (by decide)
  · rename_i h1
    split at h
    · exact absurd h (by decide)
    · split at h
      · rename_i h3
        refine ⟨by cases bo <;> simp_all, ?_⟩
        have h4 : inB x 0 (nI 4) = true := by
          unfold inB at h3 ⊢
          have h5 := of_decide_eq_true h3
          exact decide_eq_true ⟨fun z => h5.1 (Int32.lt_trans z (by decide)), h5.2⟩
        obtain ⟨N, hN, rfl⟩ := inB_ex (N := 4) (by decide) h4
        refine ⟨N, ?_, by omega, rfl⟩
        rcases Nat.eq_zero_or_pos N with z | z
        · rw [z] at h3; exact absurd h3 (by decide)
        · exact z
      · exact absurd h (by decide)
/-- frame of codings, coding -/
def cdF (MI : Mi) (ML : Nat → Nat → Int64) (W : Mi) (B : Nat → Nat → Int64) : Prop := (∀ b, b ≠ 124 → b ≠ 150 → b ≠ 151 → W b = MI b) ∧ (∀ j, j ≠ 0 → j ≠ 1 → j ≠ 2 → j ≠ 52 → W 124 j = MI 124 j) ∧ (∀ b, b ≠ 152 → b ≠ 153 → B b = ML b) ∧ W 124 0 = 0 ∧ W 124 2 = -1
theorem cdF_end {MI W : Mi} {ML B : Nat → Nat → Int64} {w : Int32} (h1 : ∀ b, b ≠ 124 → b ≠ 150 → b ≠ 151 → W b = th MI b) (h2 : ∀ j, j ≠ 52 → W 124 j = th MI 124 j) (h3 : ∀ b, b ≠ 152 → b ≠ 153 → B b = ML b) : cdF MI ML (rfM W w) B := by
  refine ⟨fun b g1 g2 g3 => ?_, fun j g0 g1 g2 g3 => ?_, h3, ?_, u2_eq _ _ _ _⟩
  · unfold rfM
    rw [u2_row _ _ g1, u2_row _ _ g1, h1 b g1 g2 g3, th_b g1]
  · unfold rfM
    rw [u2_ne _ _ (by omega), u2_ne _ _ (by omega), h2 j g3]
    exact u2_ne _ _ (by omega)
  · unfold rfM
    rw [u2_ne _ _ (by omega), u2_ne _ _ (by omega), h2 0 (by decide)]
    exact u2_eq _ _ _ _
section rcodings2
variable {X : xG} {n : Nat} {MI : Nat → Nat → Int32} {ML : Nat → Nat → Int64} {MR : Nat → Nat → Option Nat}
set_option maxRecDepth 100000 in
theorem c_X11_refusesCodes {bo : Bool} {x : Int32} : Cf X yX11_refusesCodes cX11_refusesCodes 3 (some .int) 2 [.ref 124, .int (b2 bo), .int x] n SH MI ML MR (some (.int (rcN MI bo x))) MI ML MR := by
  refine Ct_of (by decide) (Nat.le_of_ble_eq_true rfl) (fun G hG => ?_)
  refine r_iload_n 1 rfl dX11_refusesCodes_0 ?_
  refine r_ifne (tgt := 6) dX11_refusesCodes_1 (by decide) (fun zh1 => ?_) (fun zh1 => ?_)
  · refine r_aload_n 0 rfl dX11_refusesCodes_6 ?_
    refine r_geti dX11_refusesCodes_7 fl_X11_273 rfl ?_
    refine r_iconst (v := 1) rfl dX11_refusesCodes_10 ?_
    refine r_iconst (v := 4) rfl dX11_refusesCodes_11 ?_
    refine r_Sf [.int _, .int _, .int _] dX11_refusesCodes_12 lk_X11_138 mb_X11_in sc_X11_in rfl (c_X11_in) rfl (Nat.le_of_ble_eq_true rfl) (rfl) ?_
    refine r_ifeq (tgt := 20) dX11_refusesCodes_15 (by decide) (fun zh15 => ?_) (fun zh15 => ?_)
    · refine r_iload_n 2 rfl dX11_refusesCodes_20 ?_
      refine r_iconst (v := 1) rfl dX11_refusesCodes_21 ?_
      refine r_iconst (v := 4) rfl dX11_refusesCodes_22 ?_
      refine r_Sf [.int _, .int _, .int _] dX11_refusesCodes_23 lk_X11_138 mb_X11_in sc_X11_in rfl (c_X11_in) rfl (Nat.le_of_ble_eq_true rfl) (rfl) ?_
      refine r_ifeq (tgt := 33) dX11_refusesCodes_26 (by decide) (fun zh26 => ?_) (fun zh26 => ?_)
      · refine r_iconst (v := 2) rfl dX11_refusesCodes_33 ?_
        exact r_iret hG dX11_refusesCodes_34 (by
            have y1 : ¬ bo = false := fun z => zh1 (b2z.mpr z)
            have y2 : ¬ inB (MI 124 27) 1 4 = true := by rw [b2z.mp zh15]; decide
            refine ⟨?_, rfl, rfl, rfl⟩
            unfold rcN
            rw [if_neg y1, if_neg y2]
            first
              | (have y3 : inB x 1 4 = true := b2n.mp zh26
                 rw [if_pos y3])
              | (have y3 : ¬ inB x 1 4 = true := by rw [b2z.mp zh26]; decide
                 rw [if_neg y3]))
      · refine r_iconst (v := 0) rfl dX11_refusesCodes_29 ?_
        refine r_goto (tgt := 34) dX11_refusesCodes_30 (by decide) ?_
        exact r_iret hG dX11_refusesCodes_34 (by
            have y1 : ¬ bo = false := fun z => zh1 (b2z.mpr z)
            have y2 : ¬ inB (MI 124 27) 1 4 = true := by rw [b2z.mp zh15]; decide
            refine ⟨?_, rfl, rfl, rfl⟩
            unfold rcN
            rw [if_neg y1, if_neg y2]
            first
              | (have y3 : inB x 1 4 = true := b2n.mp zh26
                 rw [if_pos y3])
              | (have y3 : ¬ inB x 1 4 = true := by rw [b2z.mp zh26]; decide
                 rw [if_neg y3]))
    · refine r_iconst (v := 5) rfl dX11_refusesCodes_18 ?_
      exact r_iret hG dX11_refusesCodes_19 (by
          have y1 : ¬ bo = false := fun z => zh1 (b2z.mpr z)
          have y2 : inB (MI 124 27) 1 4 = true := b2n.mp zh15
          refine ⟨?_, rfl, rfl, rfl⟩
          unfold rcN
          rw [if_neg y1, if_pos y2])
  · refine r_iconst (v := 1) rfl dX11_refusesCodes_4 ?_
    exact r_iret hG dX11_refusesCodes_5 (⟨by unfold rcN; rw [if_pos (b2z.mp zh1)], rfl, rfl, rfl⟩)
set_option maxRecDepth 100000 in
theorem c_X11_codings (hM : x_Lay MR) {A S b : Nat} (hm : rMc MI A S b) (hSr : MI 130 0 = nI S) (hb : MI 124 20 = 0 ∨ MI 124 20 = 1) {x : Int32} : Ct X yX11_codings cX11_codings 3 (some .int) 6 0 0 [.ref 124, .int x] n SH MI ML MR n SH (fun r W B C => C = MR ∧ cdF MI ML W B ∧ if rcN MI (decide (¬ MI 124 20 = 0)) x = 0 then r = some (.int (nI (owy (okT (MI 135) (MI 136) (MI 128) (arR MI) S A x.toNatClampNeg (ML 138, ML 137)) (x.toNatClampNeg ^ S)))) ∧ W 124 1 = 0 else r = some (.int (-1)) ∧ W 124 1 = rcN MI (decide (¬ MI 124 20 = 0)) x) := by
  obtain ⟨V, hV⟩ : ∃ V, V = th MI := ⟨_, rfl⟩
  have e20 : V 124 20 = b2 (decide (¬ MI 124 20 = 0)) := by
    rw [hV]
    show MI 124 20 = _
    rcases hb with z | z <;> rw [z] <;> rfl
  have eN : rcN V (decide (¬ MI 124 20 = 0)) x = rcN MI (decide (¬ MI 124 20 = 0)) x := by rw [hV]; rfl
  obtain ⟨bo, hbo⟩ : ∃ bo, bo = decide (¬ MI 124 20 = 0) := ⟨_, rfl⟩
  rw [← hbo] at e20 eN ⊢
  obtain ⟨hA, hS, hAr, hP, hb6, hbr⟩ := hm
  by_cases h1 : rcN V bo x = 0
  · obtain ⟨-, N, hN, hN4, rfl⟩ := rcN_0 h1
    have cN : (nI N).toNatClampNeg = N := nI_clamp (by omega)
    have hh1 : rcN MI bo (nI N) = 0 := eN.symm.trans h1
    have htr := c_X11_triesCodes (X := X) (n := n) (MI := V) (ML := ML) (MR := MR) hM hA hS (by rw [hV]; exact hSr) (by rw [hV]; exact hAr) (by rw [hV]; exact hP) hN hN4 (f := okT (MI 135) (MI 136) (MI 128) (arR MI) S A N (ML 138, ML 137)) (by rw [hV]; rfl)
    refine Ct_of (by decide) (Nat.le_of_ble_eq_true rfl) (fun G hG => ?_)
    refine r_aload_n 0 rfl dX11_codings_0 ?_
    refine r_iconst (v := 0) rfl dX11_codings_1 ?_
    refine r_puti dX11_codings_2 fl_X11_3 rfl rfl rfl ?_
    refine r_mem hV.symm rfl rfl ?_
    refine r_aload_n 0 rfl dX11_codings_5 ?_
    refine r_aload_n 0 rfl dX11_codings_6 ?_
    refine r_geti dX11_codings_7 fl_X11_257 rfl ?_
    rw [e20]
    refine r_iload_n 1 rfl dX11_codings_10 ?_
    refine r_Vf [.int _, .int _] dX11_codings_11 lk_X11_495 mb_X11_refusesCodes in_X11_refusesCodes se_X11_refusesCodes rfl (c_X11_refusesCodes) rfl rfl rfl (Nat.le_of_ble_eq_true rfl) (rfl) ?_
    refine r_istore_n (ls2 := [(2, .int (rcN V bo (nI N))), (0, .ref 124), (1, .int (nI N))]) dX11_codings_14 (by decide) rfl ?_
    refine r_iload_n 0 rfl dX11_codings_15 ?_
    refine r_ifle (tgt := 25) dX11_codings_16 (by decide) (fun zh16 => ?_) (fun zh16 => ?_)
    rotate_left
    · exact absurd zh16 (fun q => q (by rw [h1]; exact Int32.le_refl 0))
    refine r_aload_n 1 rfl dX11_codings_25 ?_
    refine r_iload_n 2 rfl dX11_codings_26 ?_
    refine r_Vg [.int _] dX11_codings_27 lk_X11_499 mb_X11_triesCodes in_X11_triesCodes se_X11_triesCodes rfl (htr) rfl rfl rfl (Nat.le_of_ble_eq_true rfl) (rfl) (fun r zW zB zC hz => ?_)
    obtain ⟨rfl, rfl, zQ⟩ := hz
    show RW X G _ _ _ _ _ _ _ _ _ _ _ _ _ []
    refine r_aload_n 1 rfl dX11_codings_30 ?_
    refine r_aload_n 1 rfl dX11_codings_31 ?_
    refine r_geti dX11_codings_32 fl_X11_486 rfl ?_
    rw [zQ.2.2.2.1]
    refine r_Vf [.int _] dX11_codings_35 lk_X11_267 mb_X11_good in_X11_good se_X11_good rfl (c_X11_good) rfl rfl rfl (Nat.le_of_ble_eq_true rfl) (rfl) ?_
    exact r_iret hG dX11_codings_38 (by
        refine ⟨rfl, cdF_end (by rw [← hV]; exact zQ.1) (by rw [← hV]; exact zQ.2.1) zQ.2.2.1, ?_⟩
        rw [if_pos hh1, cN]
        exact ⟨rfl, by unfold rfM; rw [u2_ne _ _ (by omega)]; exact u2_eq _ _ _ _⟩)
  · have hh1 : ¬ rcN MI bo x = 0 := fun z => h1 (eN.trans z)
    refine Ct_of (by decide) (Nat.le_of_ble_eq_true rfl) (fun G hG => ?_)
    refine r_aload_n 0 rfl dX11_codings_0 ?_
    refine r_iconst (v := 0) rfl dX11_codings_1 ?_
    refine r_puti dX11_codings_2 fl_X11_3 rfl rfl rfl ?_
    refine r_mem hV.symm rfl rfl ?_
    refine r_aload_n 0 rfl dX11_codings_5 ?_
    refine r_aload_n 0 rfl dX11_codings_6 ?_
    refine r_geti dX11_codings_7 fl_X11_257 rfl ?_
    rw [e20]
    refine r_iload_n 1 rfl dX11_codings_10 ?_
    refine r_Vf [.int _, .int _] dX11_codings_11 lk_X11_495 mb_X11_refusesCodes in_X11_refusesCodes se_X11_refusesCodes rfl (c_X11_refusesCodes) rfl rfl rfl (Nat.le_of_ble_eq_true rfl) (rfl) ?_
    refine r_istore_n (ls2 := [(2, .int (rcN V bo x)), (0, .ref 124), (1, .int x)]) dX11_codings_14 (by decide) rfl ?_
    refine r_iload_n 0 rfl dX11_codings_15 ?_
    refine r_ifle (tgt := 25) dX11_codings_16 (by decide) (fun zh16 => ?_) (fun zh16 => ?_)
    · exact absurd zh16 (fun q => h1 (rcN_le.mp q))
    refine r_aload_n 1 rfl dX11_codings_19 ?_
    refine r_iload_n 0 rfl dX11_codings_20 ?_
    refine r_Vf [.int _] dX11_codings_21 lk_X11_251 mb_X11_refused in_X11_refused se_X11_refused rfl (c_X11_refused) rfl rfl rfl (Nat.le_of_ble_eq_true rfl) (rfl) ?_
    exact r_iret hG dX11_codings_24 (by
        refine ⟨rfl, cdF_end (fun b _ _ _ => by rw [hV]) (fun j _ => by rw [hV]) (fun _ _ _ => rfl), ?_⟩
        rw [if_neg hh1, ← eN]
        exact ⟨rfl, by unfold rfM; rw [u2_ne _ _ (by omega)]; exact u2_eq _ _ _ _⟩)
set_option maxRecDepth 100000 in
theorem c_X11_coding (hM : x_Lay MR) {A S b : Nat} (hm : rMc MI A S b) (hSr : MI 130 0 = nI S) {x y : Int32} : Ct X yX11_coding cX11_coding 4 (some .int) 6 0 0 [.ref 124, .int x, .int y] n SH MI ML MR n SH (fun r W B C => C = MR ∧ cdF MI ML W B ∧ if rcN MI (rIS MI y) x = 0 then (match (List.range (x.toNatClampNeg ^ S)).find? (okT (MI 135) (MI 136) (MI 128) (arR MI) S A x.toNatClampNeg (ML 138, ML 137)) with
    | some t => r = some (.int (nI (odg x.toNatClampNeg S t y.toNatClampNeg))) ∧ W 124 1 = 0
    | none => r = some (.int (-1)) ∧ W 124 1 = 1) else r = some (.int (-1)) ∧ W 124 1 = rcN MI (rIS MI y) x) := by
  obtain ⟨V, hV⟩ : ∃ V, V = th MI := ⟨_, rfl⟩
  have eN : rcN V (rIS V y) x = rcN MI (rIS MI y) x := by rw [hV]; rfl
  obtain ⟨hA, hS, hAr, hP, hb6, hbr⟩ := hm
  have e1 : ∀ (W : Mi) (w : Int32), rfM W w 124 1 = w := fun W w => by unfold rfM; rw [u2_ne _ _ (by omega)]; exact u2_eq _ _ _ _
  by_cases h1 : rcN V (rIS V y) x = 0
  · obtain ⟨hbo, N, hN, hN4, rfl⟩ := rcN_0 h1
    have cN : (nI N).toNatClampNeg = N := nI_clamp (by omega)
    have hIS : inR y (nI S) = true := by
      have hh := hbo
      unfold rIS at hh
      rw [show V 130 0 = nI S by rw [hV]; exact hSr] at hh
      exact ((Bool.and_eq_true _ _).mp hh).2
    obtain ⟨s, hs, rfl⟩ := inR_ex (by omega) (inR_t.mp hIS).1 (inR_t.mp hIS).2
    have cs : (nI s).toNatClampNeg = s := nI_clamp (by omega)
    have hh1 : rcN MI (rIS MI (nI s)) (nI N) = 0 := eN.symm.trans h1
    obtain ⟨f, hf⟩ : ∃ f, f = okT (MI 135) (MI 136) (MI 128) (arR MI) S A N (ML 138, ML 137) := ⟨_, rfl⟩
    have htr := c_X11_triesCodes (X := X) (n := n) (MI := V) (ML := ML) (MR := MR) hM hA hS (by rw [hV]; exact hSr) (by rw [hV]; exact hAr) (by rw [hV]; exact hP) hN hN4 (f := f) (by rw [hf, hV]; rfl)
    have hle := owy_le f (N ^ S)
    have hT : N ^ S ≤ 4096 := Nat.le_trans (Nat.pow_le_pow_left hN4 S) (Nat.pow_le_pow_right (n := 4) (by decide) hS)
    refine Ct_of (by decide) (Nat.le_of_ble_eq_true rfl) (fun G hG => ?_)
    refine r_aload_n 0 rfl dX11_coding_0 ?_
    refine r_iconst (v := 0) rfl dX11_coding_1 ?_
    refine r_puti dX11_coding_2 fl_X11_3 rfl rfl rfl ?_
    refine r_mem hV.symm rfl rfl ?_
    refine r_aload_n 0 rfl dX11_coding_5 ?_
    refine r_aload_n 0 rfl dX11_coding_6 ?_
    refine r_iload_n 2 rfl dX11_coding_7 ?_
    refine r_Vf [.int _] dX11_coding_8 lk_X11_335 mb_X11_isState in_X11_isState se_X11_isState rfl (c_X11_isState hM) rfl rfl rfl (Nat.le_of_ble_eq_true rfl) (rfl) ?_
    refine r_iload_n 1 rfl dX11_coding_11 ?_
    refine r_Vf [.int _, .int _] dX11_coding_12 lk_X11_495 mb_X11_refusesCodes in_X11_refusesCodes se_X11_refusesCodes rfl (c_X11_refusesCodes) rfl rfl rfl (Nat.le_of_ble_eq_true rfl) (rfl) ?_
    refine r_istore_n (ls2 := [(3, .int (rcN V (rIS V (nI s)) (nI N))), (0, .ref 124), (1, .int (nI N)), (2, .int (nI s))]) dX11_coding_15 (by decide) rfl ?_
    refine r_iload_n 0 rfl dX11_coding_16 ?_
    refine r_ifle (tgt := 26) dX11_coding_17 (by decide) (fun zh17 => ?_) (fun zh17 => ?_)
    rotate_left
    · exact absurd zh17 (fun q => q (by rw [h1]; exact Int32.le_refl 0))
    refine r_aload_n 1 rfl dX11_coding_26 ?_
    refine r_iload_n 2 rfl dX11_coding_27 ?_
    refine r_Vg [.int _] dX11_coding_28 lk_X11_499 mb_X11_triesCodes in_X11_triesCodes se_X11_triesCodes rfl (htr) rfl rfl rfl (Nat.le_of_ble_eq_true rfl) (rfl) (fun r zW zB zC hz => ?_)
    obtain ⟨rfl, rfl, zQ⟩ := hz
    have zc := cdF_end (MI := MI) (W := zW) (ML := ML) (B := zB) (w := 0) (by rw [← hV]; exact zQ.1) (by rw [← hV]; exact zQ.2.1) zQ.2.2.1
    have zc1 := cdF_end (MI := MI) (W := zW) (ML := ML) (B := zB) (w := 1) (by rw [← hV]; exact zQ.1) (by rw [← hV]; exact zQ.2.1) zQ.2.2.1
    show RW X G _ _ _ _ _ _ _ _ _ _ _ _ _ []
    refine r_aload_n 1 rfl dX11_coding_31 ?_
    refine r_geti dX11_coding_32 fl_X11_486 rfl ?_
    refine r_ifne (tgt := 46) dX11_coding_35 (by decide) (fun zh35 => ?_) (fun zh35 => ?_)
    · refine r_aload_n 1 rfl dX11_coding_46 ?_
      refine r_aload_n 1 rfl dX11_coding_47 ?_
      refine r_getr dX11_coding_48 fl_X11_101 rfl (hM _ _ _ rfl) ?_
      refine r_iload_n 3 rfl dX11_coding_51 ?_
      refine r_iald dX11_coding_52 rfl (vp_in_nI (show s < 6 by omega) (by decide)) ?_
      refine r_Vf [.int _] dX11_coding_53 lk_X11_267 mb_X11_good in_X11_good se_X11_good rfl (c_X11_good) rfl rfl rfl (Nat.le_of_ble_eq_true rfl) (rfl) ?_
      exact r_iret hG dX11_coding_56 (by
          have zw := zQ.2.2.2.1
          try dsimp only
          rw [if_pos hh1, cN, cs, ← hf]
          cases hq : (List.range (N ^ S)).find? f with
          | none =>
            have z0 : zW 124 52 = 0 := zw.trans (congrArg nI ((owy_0 _).mpr hq))
            first
              | exact absurd z0 zh35
              | exact ⟨rfl, zc1, rfl, e1 _ _⟩
          | some t =>
            have z1 : ¬ zW 124 52 = 0 := fun z => by
              have := (owy_0 _).mp ((nI_eq (b := 0) (by omega) (by decide)).mp (zw.symm.trans z))
              rw [hq] at this
              cases this
            first
              | exact absurd zh35 z1
              | exact ⟨rfl, zc, by rw [zQ.2.2.2.2 t hq s hs], e1 _ _⟩)
    · refine r_aload_n 1 rfl dX11_coding_38 ?_
      refine r_iconst (v := 1) rfl dX11_coding_39 ?_
      refine r_Vf [.int _] dX11_coding_40 lk_X11_251 mb_X11_refused in_X11_refused se_X11_refused rfl (c_X11_refused) rfl rfl rfl (Nat.le_of_ble_eq_true rfl) (rfl) ?_
      refine r_goto (tgt := 56) dX11_coding_43 (by decide) ?_
      exact r_iret hG dX11_coding_56 (by
          have zw := zQ.2.2.2.1
          try dsimp only
          rw [if_pos hh1, cN, cs, ← hf]
          cases hq : (List.range (N ^ S)).find? f with
          | none =>
            have z0 : zW 124 52 = 0 := zw.trans (congrArg nI ((owy_0 _).mpr hq))
            first
              | exact absurd z0 zh35
              | exact ⟨rfl, zc1, rfl, e1 _ _⟩
          | some t =>
            have z1 : ¬ zW 124 52 = 0 := fun z => by
              have := (owy_0 _).mp ((nI_eq (b := 0) (by omega) (by decide)).mp (zw.symm.trans z))
              rw [hq] at this
              cases this
            first
              | exact absurd zh35 z1
              | exact ⟨rfl, zc, by rw [zQ.2.2.2.2 t hq s hs], e1 _ _⟩)
  · have hh1 : ¬ rcN MI (rIS MI y) x = 0 := fun z => h1 (eN.trans z)
    refine Ct_of (by decide) (Nat.le_of_ble_eq_true rfl) (fun G hG => ?_)
    refine r_aload_n 0 rfl dX11_coding_0 ?_
    refine r_iconst (v := 0) rfl dX11_coding_1 ?_
    refine r_puti dX11_coding_2 fl_X11_3 rfl rfl rfl ?_
    refine r_mem hV.symm rfl rfl ?_
    refine r_aload_n 0 rfl dX11_coding_5 ?_
    refine r_aload_n 0 rfl dX11_coding_6 ?_
    refine r_iload_n 2 rfl dX11_coding_7 ?_
    refine r_Vf [.int _] dX11_coding_8 lk_X11_335 mb_X11_isState in_X11_isState se_X11_isState rfl (c_X11_isState hM) rfl rfl rfl (Nat.le_of_ble_eq_true rfl) (rfl) ?_
    refine r_iload_n 1 rfl dX11_coding_11 ?_
    refine r_Vf [.int _, .int _] dX11_coding_12 lk_X11_495 mb_X11_refusesCodes in_X11_refusesCodes se_X11_refusesCodes rfl (c_X11_refusesCodes) rfl rfl rfl (Nat.le_of_ble_eq_true rfl) (rfl) ?_
    refine r_istore_n (ls2 := [(3, .int (rcN V (rIS V y) x)), (0, .ref 124), (1, .int x), (2, .int y)]) dX11_coding_15 (by decide) rfl ?_
    refine r_iload_n 0 rfl dX11_coding_16 ?_
    refine r_ifle (tgt := 26) dX11_coding_17 (by decide) (fun zh17 => ?_) (fun zh17 => ?_)
    · exact absurd zh17 (fun q => h1 (rcN_le.mp q))
    refine r_aload_n 1 rfl dX11_coding_20 ?_
    refine r_iload_n 0 rfl dX11_coding_21 ?_
    refine r_Vf [.int _] dX11_coding_22 lk_X11_251 mb_X11_refused in_X11_refused se_X11_refused rfl (c_X11_refused) rfl rfl rfl (Nat.le_of_ble_eq_true rfl) (rfl) ?_
    exact r_iret hG dX11_coding_25 (by
        refine ⟨rfl, cdF_end (fun b _ _ _ => by rw [hV]) (fun j _ => by rw [hV]) (fun _ _ _ => rfl), ?_⟩
        rw [if_neg hh1, ← eN]
        exact ⟨rfl, e1 _ _⟩)
end rcodings2

/-! the reference's reader: letters, words, lines -/
theorem lcmp_lt {x y : Int64} : lg_cmp x y < 0 ↔ x < y := by
  unfold lg_cmp
  by_cases h : x > y
  · rw [if_pos h]
    exact ⟨fun q => absurd q (by decide), fun q => absurd q (Int64.lt_asymm h)⟩
  · rw [if_neg h]
    by_cases h2 : x = y
    · subst h2
      rw [if_pos rfl]
      exact ⟨fun q => absurd q (by decide), fun q => absurd q (Int64.lt_irrefl)⟩
    · rw [if_neg h2]
      exact ⟨fun _ => Int64.lt_of_le_of_ne (Int64.not_lt.mp h) h2, fun _ => by decide⟩
theorem lcmp_ge {x y : Int64} : 0 ≤ lg_cmp x y ↔ ¬ x < y := by
  rw [← Int32.not_lt, lcmp_lt]
theorem vpk {k N : Nat} {x : Int32} (h : k < N) (hN : N < 2 ^ 31) (hx : x = nI k) : vp_in x N := by rw [hx]; exact vp_in_nI h hN
/-- the number of a letter at hand among m from a on -/
def ltR (s : Rs) (a m : Int32) : Int32 := if s.2.2.2.1 = 2 ∧ ¬ s.2.2.2.2.2.1 < a.toInt64 ∧ s.2.2.2.2.2.1 < (a + m).toInt64 then s.2.2.2.2.2.1.toInt32 - a else -1
theorem ltR_k {s : Rs} {a m : Int32} (h : ¬ s.2.2.2.1 = 2) : ltR s a m = -1 := if_neg (fun q => h q.1)
def pkS (i : Nat) : Nat → Int64
  | 0 => 0
  | k + 1 => (pkS i k <<< (8 : Int64)) ||| (x_sb i k).toInt64
/-- the state of the reference's reader hangs together -/
def okR (L : Nat) (s : Rs) : Prop := s.2.2.1 ≤ L ∧ s.2.1 ≤ s.2.2.1 ∧ (s.2.2.2.1 = 2 ∨ s.2.2.2.1 = 4 → s.2.1 < s.2.2.1) ∧ ¬ s.1 < 0 ∧ (¬ s.1 = 0 → s.2.2.2.1 = 0)
theorem wr_k (s : Rs) (k : Int32) : (wrR s k).2.2.2.1 = 0 := rfl
theorem wr_n {s : Rs} {k : Int32} (h : (wrR s k).2.2.2.1 = 2 ∨ (wrR s k).2.2.2.1 = 4) : False := by
  rw [wr_k] at h
  exact absurd h (by decide)
theorem okR_w {L : Nat} {s : Rs} {k : Int32} (hk : 0 < k) (h : okR L s) : okR L (wrR s k) := by
  obtain ⟨h1, h2, h3, h4, h5⟩ := h
  refine ⟨h1, h2, fun q => (wr_n q).elim, ?_, fun _ => rfl⟩
  show ¬ (if s.1 = 0 then k else s.1) < 0
  split
  · exact Int32.lt_asymm hk
  · exact h4
theorem wdL_first {T : Nat → Int32} {L p : Nat} (h : inB (byR T L p) 97 122 = true) (hp : p < L) : p < (wdL T L p (L - p) (p, 0)).1 := by
  rw [show L - p = (L - (p + 1)) + 1 by omega, wdL, if_pos h]
  exact (wdL_le T L p (L - (p + 1)) (p + 1, _) (by show p + 1 + (L - (p + 1)) ≤ L; omega)).1
theorem okR_n {T : Nat → Int32} {L : Nat} {s : Rs} (h : okR L s) : okR L (nxR T L s) := by
  obtain ⟨h1, h2, h3, h4, h5⟩ := h
  unfold nxR
  split
  · exact ⟨h1, h2, h3, h4, h5⟩
  · rename_i hn
    have h0 : s.1 = 0 := Int32.le_antisymm (Int32.not_lt.mp hn) (Int32.not_lt.mp h4)
    have hsk := skR_le T L (L - s.2.2.1) s.2.2.1 (by omega)
    generalize skR T L (L - s.2.2.1) s.2.2.1 = p at hsk
    have hok := nxQ_ok (T := T) (s := s) hsk.2
    unfold nxQ at hok ⊢
    split
    · exact ⟨hsk.2, Nat.le_refl _, fun q => absurd (show (1 : Int32) = 2 ∨ (1 : Int32) = 4 from q) (by decide), h4, fun q => absurd h0 q⟩
    · rename_i hne
      have hlt : p < L := by
        rcases Nat.lt_or_ge p L with q | q
        · exact q
        · exact absurd (if_neg (by omega)) hne
      rw [if_neg hne] at hok
      split
      · rename_i hw
        rw [if_pos hw] at hok
        exact ⟨hok, Nat.le_of_lt (wdL_first hw hlt), fun _ => wdL_first hw hlt, h4, fun q => absurd h0 q⟩
      · rename_i hw
        rw [if_neg hw] at hok
        split
        · rename_i hz
          rw [if_pos hz] at hok
          refine ⟨hok, (nbL_le T L p (L - p) (p, 0) (by show p + (L - p) ≤ L; omega)).1, fun q => ?_, h4, fun q => absurd h0 q⟩
          exfalso
          have q2 : (if 3 < (nbL T L p (L - p) (p, 0)).1 - p then (0 : Int32) else 3) = 2 ∨ (if 3 < (nbL T L p (L - p) (p, 0)).1 - p then (0 : Int32) else 3) = 4 := q
          by_cases z : 3 < (nbL T L p (L - p) (p, 0)).1 - p
          · rw [if_pos z] at q2; exact absurd q2 (by decide)
          · rw [if_neg z] at q2; exact absurd q2 (by decide)
        · rename_i hz
          rw [if_neg hz] at hok
          refine ⟨hok, ?_, fun q => ?_, h4, fun q => absurd h0 q⟩
          · show p ≤ (if isSg (byR T L p) = true then p + 1 else p)
            split <;> omega
          · have q2 : (if isSg (byR T L p) = true then (4 : Int32) else 0) = 2 ∨ (if isSg (byR T L p) = true then (4 : Int32) else 0) = 4 := q
            show p < (if isSg (byR T L p) = true then p + 1 else p)
            by_cases z : isSg (byR T L p) = true
            · rw [if_pos z]; omega
            · rw [if_neg z] at q2; exact absurd q2 (by decide)
/-- behind a word the next one begins later -/
theorem nxR_at2 {T : Nat → Int32} {L : Nat} {s : Rs} (h : okR L s) (hk : s.2.2.2.1 = 2 ∨ s.2.2.2.1 = 4) : s.2.1 < (nxR T L s).2.1 := by
  obtain ⟨h1, h2, h3, h4, h5⟩ := h
  have h0 : s.1 = 0 := Classical.not_not.mp fun q => by rw [h5 q] at hk; exact absurd hk (by decide)
  have h00 : ¬ 0 < s.1 := by rw [h0]; decide
  unfold nxR
  rw [if_neg h00]
  have hsk := skR_le T L (L - s.2.2.1) s.2.2.1 (by omega)
  have h6 := h3 hk
  have : (nxQ T L (skR T L (L - s.2.2.1) s.2.2.1) s).2.1 = skR T L (L - s.2.2.1) s.2.2.1 := by
    unfold nxQ
    split
    · rfl
    · split
      · rfl
      · split <;> rfl
  rw [this]
  omega
theorem nxR_at {T : Nat → Int32} {L : Nat} {s : Rs} (h : okR L s) (hk : s.2.2.2.1 = 2) : s.2.1 < (nxR T L s).2.1 := nxR_at2 h (Or.inl hk)
def saR (T : Nat → Int32) (L : Nat) (S : Int32) (s : Rs) : Int32 × Rs := (s.2.2.2.2.1, nxR T L (if s.2.2.2.1 = 3 then (if s.2.2.2.2.1 < S then s else wrR s 2) else wrR s 1))
def slR (T : Nat → Int32) (L : Nat) (s : Rs) : Rs := nxR T L (if s.2.2.2.1 = 4 ∧ s.2.2.2.2.1 = 47 then s else wrR s 1)
def rlR (T : Nat → Int32) (L : Nat) (a m : Int32) : Nat → Int32 × Rs → Int32 × Rs
  | 0, q => q
  | k + 1, q => if ltR q.2 a m = -1 then q else rlR T L a m k (q.1 ||| ((1 : Int32) <<< (ltR q.2 a m &&& 31)), nxR T L (if bitR q.1 (ltR q.2 a m) = true then wrR q.2 3 else q.2))
def oRi (s : Rs) (x : Int32) : Rs := (s.1, s.2.1, s.2.2.1, s.2.2.2.1, s.2.2.2.2.1, s.2.2.2.2.2.1, s.2.2.2.2.2.2.1 ||| x, s.2.2.2.2.2.2.2)
def oSi (s : Rs) (x : Int32) : Rs := (s.1, s.2.1, s.2.2.1, s.2.2.2.1, s.2.2.2.2.1, s.2.2.2.2.2.1, s.2.2.2.2.2.2.1, s.2.2.2.2.2.2.2 ||| x)
/-- the sign of a change -/
def cgR (s : Rs) (x : Int32) : Rs := if s.2.2.2.1 = 4 ∧ s.2.2.2.2.1 = 43 then oRi s x else if s.2.2.2.1 = 4 ∧ s.2.2.2.2.1 = 45 then oSi s x else wrR s 1
def c1R (T : Nat → Int32) (L : Nat) (k : Int32) (s : Rs) : Rs := nxR T L (cgR (nxR T L (if bitR (s.2.2.2.2.2.2.1 ||| s.2.2.2.2.2.2.2) k = true then wrR s 3 else s)) ((1 : Int32) <<< (k &&& 31)))
def rcR (T : Nat → Int32) (L : Nat) (a m : Int32) : Nat → Rs → Rs
  | 0, s => s
  | k + 1, s => if ltR s a m = -1 then s else rcR T L a m k (c1R T L (ltR s a m) s)
def zRS (s : Rs) : Rs := (s.1, s.2.1, s.2.2.1, s.2.2.2.1, s.2.2.2.2.1, s.2.2.2.2.2.1, 0, 0)
def lit (s : Rs) : Int32 := if ltR s 97 4 = -1 then (if ltR s 115 2 = -1 then -1 else 4 + ltR s 115 2) else ltR s 97 4
def gt1R (T : Nat → Int32) (L : Nat) (q : Int32 × Int32 × Rs) : Int32 × Int32 × Rs :=
  let s1 := nxR T L (if bitR q.1 (lit q.2.2) = true then wrR q.2.2 3 else q.2.2)
  if s1.2.2.2.1 = 4 ∧ s1.2.2.2.2.1 = 39 then (q.1 ||| ((1 : Int32) <<< (lit q.2.2 &&& 31)), q.2.1, nxR T L s1) else (q.1 ||| ((1 : Int32) <<< (lit q.2.2 &&& 31)), q.2.1 ||| ((1 : Int32) <<< (lit q.2.2 &&& 31)), s1)
def rgR (T : Nat → Int32) (L : Nat) : Nat → Int32 × Int32 × Rs → Int32 × Int32 × Rs
  | 0, q => q
  | k + 1, q => if lit q.2.2 = -1 then q else rgR T L k (gt1R T L q)
theorem okR_i {L : Nat} {s : Rs} {x : Int32} (h : okR L s) : okR L (oRi s x) := h
theorem okR_o {L : Nat} {s : Rs} {x : Int32} (h : okR L s) : okR L (oSi s x) := h
theorem okR_cg {L : Nat} {s : Rs} {x : Int32} (h : okR L s) : okR L (cgR s x) := by
  unfold cgR
  split
  · exact okR_i h
  · split
    · exact okR_o h
    · exact okR_w (by decide) h
theorem okR_c1 {T : Nat → Int32} {L : Nat} {s : Rs} {k : Int32} (h : okR L s) : okR L (c1R T L k s) := by
  unfold c1R
  refine okR_n (okR_cg (okR_n ?_))
  split
  · exact okR_w (by decide) h
  · exact h
theorem okR_sa {T : Nat → Int32} {L : Nat} {S : Int32} {s : Rs} (h : okR L s) : okR L (saR T L S s).2 := by
  unfold saR
  refine okR_n ?_
  split
  · split
    · exact h
    · exact okR_w (by decide) h
  · exact okR_w (by decide) h
theorem okR_sl {T : Nat → Int32} {L : Nat} {s : Rs} (h : okR L s) : okR L (slR T L s) := by
  unfold slR
  refine okR_n ?_
  split
  · exact h
  · exact okR_w (by decide) h
theorem nx_mono {T : Nat → Int32} {L : Nat} {s : Rs} (h : okR L s) : s.2.1 ≤ (nxR T L s).2.1 := by
  obtain ⟨h1, h2, h3, h4, h5⟩ := h
  unfold nxR
  split
  · exact Nat.le_refl _
  · have hsk := skR_le T L (L - s.2.2.1) s.2.2.1 (by omega)
    have : (nxQ T L (skR T L (L - s.2.2.1) s.2.2.1) s).2.1 = skR T L (L - s.2.2.1) s.2.2.1 := by
      unfold nxQ
      split
      · rfl
      · split
        · rfl
        · split <;> rfl
    rw [this]
    omega
theorem nx_wr {T : Nat → Int32} {L : Nat} {s : Rs} {k : Int32} (hk : 0 < k) (h : okR L s) : nxR T L (wrR s k) = wrR s k := by
  unfold nxR
  rw [if_pos]
  show 0 < (if s.1 = 0 then k else s.1)
  split
  · exact hk
  · rename_i q
    exact Int32.lt_of_le_of_ne (Int32.not_lt.mp h.2.2.2.1) (Ne.symm q)
/-- behind a letter: the next word, if it is one, begins later -/
theorem mea {T : Nat → Int32} {L : Nat} {s : Rs} {b : Bool} {f : Nat} (h : okR L s) (hk : s.2.2.2.1 = 2) (hf : L - s.2.1 < f + 1) : okR L (nxR T L (if b = true then wrR s 3 else s)) ∧ ((nxR T L (if b = true then wrR s 3 else s)).2.2.2.1 = 2 → L - (nxR T L (if b = true then wrR s 3 else s)).2.1 < f) := by
  cases b
  · rw [if_neg (by decide)]
    refine ⟨okR_n h, fun q => ?_⟩
    have h1 := nxR_at (T := T) h hk
    have h2 := okR_n (T := T) h
    have h3 := h2.2.2.1 (Or.inl q)
    have h4 := h2.1
    omega
  · rw [if_pos rfl, nx_wr (by decide) h]
    exact ⟨okR_w (by decide) h, fun q => (wr_n (Or.inl q)).elim⟩
theorem nx_k0 {T : Nat → Int32} {L : Nat} {s : Rs} (h : okR L s) (h0 : ¬ s.1 = 0) : nxR T L s = s := by
  unfold nxR
  rw [if_pos (Int32.lt_of_le_of_ne (Int32.not_lt.mp h.2.2.2.1) (Ne.symm h0))]
theorem okR_z {L : Nat} {s : Rs} (h : okR L s) : okR L (zRS s) := h
theorem mea2 {T : Nat → Int32} {L : Nat} {s : Rs} {k : Int32} {f : Nat} (h : okR L s) (hk : s.2.2.2.1 = 2) (hf : L - s.2.1 < f + 1) : (c1R T L k s).2.2.2.1 = 2 → L - (c1R T L k s).2.1 < f := by
  intro q
  have h2 := okR_c1 (T := T) (k := k) h
  have h3 := h2.2.2.1 (Or.inl q)
  have h4 := h2.1
  have key : s.2.1 < (c1R T L k s).2.1 := by
    revert q
    unfold c1R
    intro q
    by_cases hb : bitR (s.2.2.2.2.2.2.1 ||| s.2.2.2.2.2.2.2) k = true
    · rw [if_pos hb, nx_wr (by decide) h] at q
      have e : cgR (wrR s 3) ((1 : Int32) <<< (k &&& 31)) = wrR (wrR s 3) 1 := by
        unfold cgR
        rw [if_neg (fun z => wr_n (Or.inr z.1)), if_neg (fun z => wr_n (Or.inr z.1))]
      rw [e, nx_wr (by decide) (okR_w (by decide) h)] at q
      exact (wr_n (Or.inl q)).elim
    · rw [if_neg hb]
      have g1 := nxR_at (T := T) h hk
      have ok1 := okR_n (T := T) h
      have g2 : (cgR (nxR T L s) ((1 : Int32) <<< (k &&& 31))).2.1 = (nxR T L s).2.1 := by
        unfold cgR
        split
        · rfl
        · split <;> rfl
      have g3 := nx_mono (T := T) (okR_cg (x := (1 : Int32) <<< (k &&& 31)) ok1)
      omega
  omega
theorem okR_g1 {T : Nat → Int32} {L : Nat} {q : Int32 × Int32 × Rs} (h : okR L q.2.2) : okR L (gt1R T L q).2.2 := by
  have h1 : okR L (nxR T L (if bitR q.1 (lit q.2.2) = true then wrR q.2.2 3 else q.2.2)) := by
    refine okR_n ?_
    split
    · exact okR_w (by decide) h
    · exact h
  unfold gt1R
  simp only
  generalize nxR T L (if bitR q.1 (lit q.2.2) = true then wrR q.2.2 3 else q.2.2) = s1 at h1 ⊢
  split
  · exact okR_n h1
  · exact h1
theorem mea3 {T : Nat → Int32} {L : Nat} {q : Int32 × Int32 × Rs} {f : Nat} (h : okR L q.2.2) (hk : q.2.2.2.2.2.1 = 2) (hf : L - q.2.2.2.1 < f + 1) : (gt1R T L q).2.2.2.2.2.1 = 2 → L - (gt1R T L q).2.2.2.1 < f := by
  intro z
  have h2 := okR_g1 (T := T) h
  have h3 := h2.2.2.1 (Or.inl z)
  have h4 := h2.1
  have key : q.2.2.2.1 < (gt1R T L q).2.2.2.1 := by
    revert z
    unfold gt1R
    simp only
    by_cases hb : bitR q.1 (lit q.2.2) = true
    · rw [if_pos hb, nx_wr (by decide) h]
      intro z
      exfalso
      rw [if_neg (fun z => wr_n (Or.inr z.1))] at z
      exact wr_n (Or.inl z)
    · rw [if_neg hb]
      intro z
      have g1 := nxR_at (T := T) h hk
      have ok1 := okR_n (T := T) h
      have g3 := nx_mono (T := T) ok1
      split
      · exact Nat.lt_of_lt_of_le g1 g3
      · exact g1
  omega
theorem lit_k {s : Rs} (h : ¬ s.2.2.2.1 = 2) : lit s = -1 := by
  unfold lit
  rw [ltR_k h, ltR_k h]
  rfl
section rparse
variable {X : xG} {n : Nat} {D : Nat → Nat → Int32} {E : Nat → Nat → Int64} {MR : Nat → Nat → Option Nat} {s : Rs} {L : Nat}
set_option maxRecDepth 100000 in
theorem c_X11_letterOf {a m : Int32} : Cf X yX11_letterOf cX11_letterOf 3 (some .int) 1 [.ref 124, .int a, .int m] n SH (laQ D s) (lwQ E s) MR (some (.int (ltR s a m))) (laQ D s) (lwQ E s) MR := by
  refine Ct_of (by decide) (Nat.le_of_ble_eq_true rfl) (fun G hG => ?_)
  have e1 : laQ D s 124 9 = s.2.2.2.1 := rfl
  have e2 : lwQ E s 124 13 = s.2.2.2.2.2.1 := lwQ_v s
  refine r_aload_n 0 rfl dX11_letterOf_0 ?_
  refine r_geti dX11_letterOf_1 fl_X11_135 rfl ?_
  refine r_iconst (v := 2) rfl dX11_letterOf_4 ?_
  refine r_icmpne (tgt := 40) dX11_letterOf_5 (by decide) (fun zh5 => ?_) (fun zh5 => ?_)
  · refine r_iconst (v := (-1)) rfl dX11_letterOf_40 ?_
    exact r_iret hG dX11_letterOf_41 (by
        refine ⟨?_, rfl, rfl, rfl⟩
        unfold ltR
        rw [e1] at zh5
        first
          | (rw [e2, lcmp_lt] at zh15; rw [e2, lcmp_ge] at zh27; have zq := Classical.not_not.mp zh27; rw [if_pos ⟨zh5, zh15, zq⟩, e2]; done)
          | (rw [e2, lcmp_lt] at zh15; rw [e2, lcmp_ge] at zh27; have zq : ¬ (s.2.2.2.1 = 2 ∧ ¬ s.2.2.2.2.2.1 < a.toInt64 ∧ s.2.2.2.2.2.1 < (a + m).toInt64) := fun q => zh27 q.2.2; rw [if_neg zq]; done)
          | (rw [e2, lcmp_lt] at zh15; have zq : ¬ (s.2.2.2.1 = 2 ∧ ¬ s.2.2.2.2.2.1 < a.toInt64 ∧ s.2.2.2.2.2.1 < (a + m).toInt64) := fun q => q.2.1 zh15; rw [if_neg zq]; done)
          | (rw [if_neg (fun q => zh5 q.1)]; done))
  · refine r_aload_n 0 rfl dX11_letterOf_8 ?_
    refine r_getl dX11_letterOf_9 fl_X11_152 rfl ?_
    refine r_iload_n 1 rfl dX11_letterOf_12 ?_
    refine r_i2l dX11_letterOf_13 ?_
    refine r_lcmp dX11_letterOf_14 ?_
    refine r_iflt (tgt := 40) dX11_letterOf_15 (by decide) (fun zh15 => ?_) (fun zh15 => ?_)
    · refine r_iconst (v := (-1)) rfl dX11_letterOf_40 ?_
      exact r_iret hG dX11_letterOf_41 (by
          refine ⟨?_, rfl, rfl, rfl⟩
          unfold ltR
          rw [e1] at zh5
          first
            | (rw [e2, lcmp_lt] at zh15; rw [e2, lcmp_ge] at zh27; have zq := Classical.not_not.mp zh27; rw [if_pos ⟨zh5, zh15, zq⟩, e2]; done)
            | (rw [e2, lcmp_lt] at zh15; rw [e2, lcmp_ge] at zh27; have zq : ¬ (s.2.2.2.1 = 2 ∧ ¬ s.2.2.2.2.2.1 < a.toInt64 ∧ s.2.2.2.2.2.1 < (a + m).toInt64) := fun q => zh27 q.2.2; rw [if_neg zq]; done)
            | (rw [e2, lcmp_lt] at zh15; have zq : ¬ (s.2.2.2.1 = 2 ∧ ¬ s.2.2.2.2.2.1 < a.toInt64 ∧ s.2.2.2.2.2.1 < (a + m).toInt64) := fun q => q.2.1 zh15; rw [if_neg zq]; done)
            | (rw [if_neg (fun q => zh5 q.1)]; done))
    · refine r_aload_n 0 rfl dX11_letterOf_18 ?_
      refine r_getl dX11_letterOf_19 fl_X11_152 rfl ?_
      refine r_iload_n 1 rfl dX11_letterOf_22 ?_
      refine r_iload_n 2 rfl dX11_letterOf_23 ?_
      refine r_iadd dX11_letterOf_24 ?_
      refine r_i2l dX11_letterOf_25 ?_
      refine r_lcmp dX11_letterOf_26 ?_
      refine r_ifge (tgt := 40) dX11_letterOf_27 (by decide) (fun zh27 => ?_) (fun zh27 => ?_)
      · refine r_iconst (v := (-1)) rfl dX11_letterOf_40 ?_
        exact r_iret hG dX11_letterOf_41 (by
            refine ⟨?_, rfl, rfl, rfl⟩
            unfold ltR
            rw [e1] at zh5
            first
              | (rw [e2, lcmp_lt] at zh15; rw [e2, lcmp_ge] at zh27; have zq := Classical.not_not.mp zh27; rw [if_pos ⟨zh5, zh15, zq⟩, e2]; done)
              | (rw [e2, lcmp_lt] at zh15; rw [e2, lcmp_ge] at zh27; have zq : ¬ (s.2.2.2.1 = 2 ∧ ¬ s.2.2.2.2.2.1 < a.toInt64 ∧ s.2.2.2.2.2.1 < (a + m).toInt64) := fun q => zh27 q.2.2; rw [if_neg zq]; done)
              | (rw [e2, lcmp_lt] at zh15; have zq : ¬ (s.2.2.2.1 = 2 ∧ ¬ s.2.2.2.2.2.1 < a.toInt64 ∧ s.2.2.2.2.2.1 < (a + m).toInt64) := fun q => q.2.1 zh15; rw [if_neg zq]; done)
              | (rw [if_neg (fun q => zh5 q.1)]; done))
      · refine r_aload_n 0 rfl dX11_letterOf_30 ?_
        refine r_getl dX11_letterOf_31 fl_X11_152 rfl ?_
        refine r_l2i dX11_letterOf_34 ?_
        refine r_iload_n 1 rfl dX11_letterOf_35 ?_
        refine r_isub dX11_letterOf_36 ?_
        refine r_goto (tgt := 41) dX11_letterOf_37 (by decide) ?_
        exact r_iret hG dX11_letterOf_41 (by
            refine ⟨?_, rfl, rfl, rfl⟩
            unfold ltR
            rw [e1] at zh5
            first
              | (rw [e2, lcmp_lt] at zh15; rw [e2, lcmp_ge] at zh27; have zq := Classical.not_not.mp zh27; rw [if_pos ⟨zh5, zh15, zq⟩, e2]; done)
              | (rw [e2, lcmp_lt] at zh15; rw [e2, lcmp_ge] at zh27; have zq : ¬ (s.2.2.2.1 = 2 ∧ ¬ s.2.2.2.2.2.1 < a.toInt64 ∧ s.2.2.2.2.2.1 < (a + m).toInt64) := fun q => zh27 q.2.2; rw [if_neg zq]; done)
              | (rw [e2, lcmp_lt] at zh15; have zq : ¬ (s.2.2.2.1 = 2 ∧ ¬ s.2.2.2.2.2.1 < a.toInt64 ∧ s.2.2.2.2.2.1 < (a + m).toInt64) := fun q => q.2.1 zh15; rw [if_neg zq]; done)
              | (rw [if_neg (fun q => zh5 q.1)]; done))
set_option maxRecDepth 100000 in
theorem c_X11_inputAt : Cf X yX11_inputAt cX11_inputAt 1 (some .int) 2 [.ref 124] n SH (laQ D s) (lwQ E s) MR (some (.int (ltR s 97 4))) (laQ D s) (lwQ E s) MR := by
  refine Ct_of (by decide) (Nat.le_of_ble_eq_true rfl) (fun G hG => ?_)
  refine r_aload_n 0 rfl dX11_inputAt_0 ?_
  refine r_bipush (v := 97) rfl dX11_inputAt_1 ?_
  refine r_iconst (v := 4) rfl dX11_inputAt_3 ?_
  refine r_Vf [.int _, .int _] dX11_inputAt_4 lk_X11_169 mb_X11_letterOf in_X11_letterOf se_X11_letterOf rfl (c_X11_letterOf) rfl rfl rfl (Nat.le_of_ble_eq_true rfl) (rfl) ?_
  exact r_iret hG dX11_inputAt_7 (⟨rfl, rfl, rfl, rfl⟩)
set_option maxRecDepth 100000 in
theorem c_X11_outputAt : Cf X yX11_outputAt cX11_outputAt 1 (some .int) 2 [.ref 124] n SH (laQ D s) (lwQ E s) MR (some (.int (ltR s 112 3))) (laQ D s) (lwQ E s) MR := by
  refine Ct_of (by decide) (Nat.le_of_ble_eq_true rfl) (fun G hG => ?_)
  refine r_aload_n 0 rfl dX11_outputAt_0 ?_
  refine r_bipush (v := 112) rfl dX11_outputAt_1 ?_
  refine r_iconst (v := 3) rfl dX11_outputAt_3 ?_
  refine r_Vf [.int _, .int _] dX11_outputAt_4 lk_X11_169 mb_X11_letterOf in_X11_letterOf se_X11_letterOf rfl (c_X11_letterOf) rfl rfl rfl (Nat.le_of_ble_eq_true rfl) (rfl) ?_
  exact r_iret hG dX11_outputAt_7 (⟨rfl, rfl, rfl, rfl⟩)
set_option maxRecDepth 100000 in
theorem c_X11_codeBitAt : Cf X yX11_codeBitAt cX11_codeBitAt 1 (some .int) 2 [.ref 124] n SH (laQ D s) (lwQ E s) MR (some (.int (ltR s 115 2))) (laQ D s) (lwQ E s) MR := by
  refine Ct_of (by decide) (Nat.le_of_ble_eq_true rfl) (fun G hG => ?_)
  refine r_aload_n 0 rfl dX11_codeBitAt_0 ?_
  refine r_bipush (v := 115) rfl dX11_codeBitAt_1 ?_
  refine r_iconst (v := 2) rfl dX11_codeBitAt_3 ?_
  refine r_Vf [.int _, .int _] dX11_codeBitAt_4 lk_X11_169 mb_X11_letterOf in_X11_letterOf se_X11_letterOf rfl (c_X11_letterOf) rfl rfl rfl (Nat.le_of_ble_eq_true rfl) (rfl) ?_
  exact r_iret hG dX11_codeBitAt_7 (⟨rfl, rfl, rfl, rfl⟩)
set_option maxRecDepth 100000 in
theorem c_X11_literalAt : Cf X yX11_literalAt cX11_literalAt 2 (some .int) 3 [.ref 124] n SH (laQ D s) (lwQ E s) MR (some (.int (lit s))) (laQ D s) (lwQ E s) MR := by
  refine Ct_of (by decide) (Nat.le_of_ble_eq_true rfl) (fun G hG => ?_)
  refine r_aload_n 0 rfl dX11_literalAt_0 ?_
  refine r_Vf [] dX11_literalAt_1 lk_X11_224 mb_X11_inputAt in_X11_inputAt se_X11_inputAt rfl (c_X11_inputAt) rfl rfl rfl (Nat.le_of_ble_eq_true rfl) (rfl) ?_
  refine r_istore_n (ls2 := [(1, .int (ltR s 97 4)), (0, .ref 124)]) dX11_literalAt_4 (by decide) rfl ?_
  refine r_iload_n 0 rfl dX11_literalAt_5 ?_
  refine r_iconst (v := (-1)) rfl dX11_literalAt_6 ?_
  refine r_icmpeq (tgt := 14) dX11_literalAt_7 (by decide) (fun zh7 => ?_) (fun zh7 => ?_)
  · refine r_aload_n 1 rfl dX11_literalAt_14 ?_
    refine r_Vf [] dX11_literalAt_15 lk_X11_239 mb_X11_codeBitAt in_X11_codeBitAt se_X11_codeBitAt rfl (c_X11_codeBitAt) rfl rfl rfl (Nat.le_of_ble_eq_true rfl) (rfl) ?_
    refine r_iconst (v := (-1)) rfl dX11_literalAt_18 ?_
    refine r_icmpne (tgt := 26) dX11_literalAt_19 (by decide) (fun zh19 => ?_) (fun zh19 => ?_)
    · refine r_iconst (v := 4) rfl dX11_literalAt_26 ?_
      refine r_aload_n 1 rfl dX11_literalAt_27 ?_
      refine r_Vf [] dX11_literalAt_28 lk_X11_239 mb_X11_codeBitAt in_X11_codeBitAt se_X11_codeBitAt rfl (c_X11_codeBitAt) rfl rfl rfl (Nat.le_of_ble_eq_true rfl) (rfl) ?_
      refine r_iadd dX11_literalAt_31 ?_
      exact r_iret hG dX11_literalAt_32 (⟨by unfold lit; first | rw [if_neg zh7] | rw [if_pos zh7, if_pos zh19] | rw [if_pos zh7, if_neg zh19], rfl, rfl, rfl⟩)
    · refine r_iconst (v := (-1)) rfl dX11_literalAt_22 ?_
      refine r_goto (tgt := 32) dX11_literalAt_23 (by decide) ?_
      exact r_iret hG dX11_literalAt_32 (⟨by unfold lit; first | rw [if_neg zh7] | rw [if_pos zh7, if_pos zh19] | rw [if_pos zh7, if_neg zh19], rfl, rfl, rfl⟩)
  · refine r_iload_n 0 rfl dX11_literalAt_10 ?_
    refine r_goto (tgt := 32) dX11_literalAt_11 (by decide) ?_
    exact r_iret hG dX11_literalAt_32 (⟨by unfold lit; first | rw [if_neg zh7] | rw [if_pos zh7, if_pos zh19] | rw [if_pos zh7, if_neg zh19], rfl, rfl, rfl⟩)
set_option maxRecDepth 100000 in
theorem c_X11_isWord (hS2 : x_S2 X) {i : Nat} (hi : i < 9) : Cf X yX11_isWord cX11_isWord 5 (some .boolean) 5 [.ref 124, .ref (1001 + i)] n SH (laQ D s) (lwQ E s) MR (some (.int (b2 (decide (s.2.2.2.1 = 2 ∧ s.2.2.2.2.2.1 = pkS i (x_sl' i)))))) (laQ D s) (lwQ E s) MR := by
  refine Ct_of (by decide) (Nat.le_of_ble_eq_true rfl) (fun G hG => ?_)
  have e1 : laQ D s 124 9 = s.2.2.2.1 := rfl
  have e2 : lwQ E s 124 13 = s.2.2.2.2.2.1 := lwQ_v s
  have hsl : x_sl' i < 2 ^ 31 := Nat.lt_of_le_of_lt (x_sl_le i hi) (by decide)
  have loop : ∀ k, k ≤ x_sl' i → RW X G RX11 cX11_isWord 5 (x_rm 5 0 0) n SH (laQ D s) (lwQ E s) MR 0 0 5 [(4, .int (nI k)), (2, .long (pkS i k)), (0, .ref 124), (1, .ref (1001 + i))] [] := by
    refine bwd (fun k hk ih => ?_)
    refine r_iload 0 rfl dX11_isWord_5 ?_
    refine r_aload_n 3 rfl dX11_isWord_7 ?_
    refine r_VRf [] dX11_isWord_8 lk_X11_159 mb_J0_length_8abf5 in_J0_length_8abf5 se_J0_length_8abf5 rfl (c_J0_length_8abf5 hS2 hi) hS2 (by omega) rfl rfl (Nat.le_of_ble_eq_true rfl) (rfl) ?_
    refine r_icmpge (tgt := 33) dX11_isWord_11 (by decide) (fun zh11 => ?_) (fun zh11 => ?_)
    · obtain rfl : k = x_sl' i := by have := geL (k := x_sl' i) hsl (by omega) zh11; omega
      refine r_aload_n 2 rfl dX11_isWord_33 ?_
      refine r_geti dX11_isWord_34 fl_X11_135 rfl ?_
      refine r_iconst (v := 2) rfl dX11_isWord_37 ?_
      refine r_icmpne (tgt := 54) dX11_isWord_38 (by decide) (fun zh38 => ?_) (fun zh38 => ?_)
      · refine r_iconst (v := 0) rfl dX11_isWord_54 ?_
        exact r_zret hG dX11_isWord_55 (rfl) (⟨by simp_all [b2, lcmp_eq, lcmp_ne], rfl, rfl, rfl⟩)
      · refine r_aload_n 2 rfl dX11_isWord_41 ?_
        refine r_getl dX11_isWord_42 fl_X11_152 rfl ?_
        refine r_lload_n 1 rfl dX11_isWord_45 ?_
        refine r_lcmp dX11_isWord_46 ?_
        refine r_ifne (tgt := 54) dX11_isWord_47 (by decide) (fun zh47 => ?_) (fun zh47 => ?_)
        · refine r_iconst (v := 0) rfl dX11_isWord_54 ?_
          exact r_zret hG dX11_isWord_55 (rfl) (⟨by simp_all [b2, lcmp_eq, lcmp_ne], rfl, rfl, rfl⟩)
        · refine r_iconst (v := 1) rfl dX11_isWord_50 ?_
          refine r_goto (tgt := 55) dX11_isWord_51 (by decide) ?_
          exact r_zret hG dX11_isWord_55 (rfl) (⟨by simp_all [b2, lcmp_eq, lcmp_ne], rfl, rfl, rfl⟩)
    · have hlt : k < x_sl' i := ltL (by omega) zh11
      refine r_lload_n 1 rfl dX11_isWord_14 ?_
      refine r_bipush (v := 8) rfl dX11_isWord_15 ?_
      refine r_lshl dX11_isWord_17 ?_
      refine r_aload_n 3 rfl dX11_isWord_18 ?_
      refine r_iload 0 rfl dX11_isWord_19 ?_
      refine r_VRf [.int _] dX11_isWord_21 lk_X11_165 mb_J0_charAt_5068e in_J0_charAt_5068e se_J0_charAt_5068e rfl (c_J0_charAt_5068e hS2 hi hlt) hS2 (by omega) rfl rfl (Nat.le_of_ble_eq_true rfl) (rfl) ?_
      refine r_i2l dX11_isWord_24 ?_
      refine r_lor dX11_isWord_25 ?_
      refine r_nml (fun zv26 ze26 => ?_)
      refine r_lstore_n (ls2 := [(2, .long zv26), (4, .int (nI k)), (0, .ref 124), (1, .ref (1001 + i))]) dX11_isWord_26 (by decide) rfl ?_
      refine r_iinc (v := (nI (k + 1))) (ls2 := [(4, .int (nI (k + 1))), (2, .long zv26), (0, .ref 124), (1, .ref (1001 + i))]) 1 dX11_isWord_27 rfl (x_inc k) (by decide) rfl ?_
      refine r_goto (tgt := 5) dX11_isWord_30 (by decide) ?_
      obtain rfl : zv26 = pkS i (k + 1) := by rw [ze26]; rfl
      exact r_sub [0, 1, 2, 3] rfl (ih hlt)
  refine r_lconst (v := 0) rfl dX11_isWord_0 ?_
  refine r_lstore_n (ls2 := [(2, .long 0), (0, .ref 124), (1, .ref (1001 + i))]) dX11_isWord_1 (by decide) rfl ?_
  refine r_iconst (v := 0) rfl dX11_isWord_2 ?_
  refine r_istore (ls2 := [(4, .int 0), (2, .long 0), (0, .ref 124), (1, .ref (1001 + i))]) dX11_isWord_3 (by decide) rfl ?_
  exact loop 0 (Nat.zero_le _)
set_option maxRecDepth 100000 in
theorem c_X11_begins (hM : x_Lay MR) (hL : L ≤ 600) (hl : D 124 7 = nI L) (ok : okR L s) {b : Int32} : Cf X yX11_begins cX11_begins 2 none 4 [.ref 124, .int b] n SH (laQ D s) (lwQ E s) MR none (laQ D (nxR (D 127) L (if b = 0 then s else wrR s 5))) (lwQ E (nxR (D 127) L (if b = 0 then s else wrR s 5))) MR := by
  refine Ct_of (by decide) (Nat.le_of_ble_eq_true rfl) (fun G hG => ?_)
  refine r_iload_n 1 rfl dX11_begins_0 ?_
  refine r_ifeq (tgt := 9) dX11_begins_1 (by decide) (fun zh1 => ?_) (fun zh1 => ?_)
  · refine r_aload_n 0 rfl dX11_begins_9 ?_
    refine r_Vn [] dX11_begins_10 lk_X11_173 mb_X11_next in_X11_next se_X11_next rfl (c_X11_next hM hL hl (by first | exact ok.1 | exact (okR_w (k := 5) (by decide) ok).1)) rfl rfl rfl (Nat.le_of_ble_eq_true rfl) (rfl) ?_
    exact r_vret hG dX11_begins_13 (by first | (rw [if_pos zh1]; exact ⟨rfl, rfl, rfl, rfl⟩) | (rw [if_neg zh1]; exact ⟨rfl, rfl, rfl, rfl⟩))
  · refine r_aload_n 0 rfl dX11_begins_4 ?_
    refine r_iconst (v := 5) rfl dX11_begins_5 ?_
    refine r_Vn [.int _] dX11_begins_6 lk_X11_183 mb_X11_wrong in_X11_wrong se_X11_wrong rfl (c_X11_wrong) rfl rfl rfl (Nat.le_of_ble_eq_true rfl) (rfl) ?_
    refine r_aload_n 0 rfl dX11_begins_9 ?_
    refine r_Vn [] dX11_begins_10 lk_X11_173 mb_X11_next in_X11_next se_X11_next rfl (c_X11_next hM hL hl (by first | exact ok.1 | exact (okR_w (k := 5) (by decide) ok).1)) rfl rfl rfl (Nat.le_of_ble_eq_true rfl) (rfl) ?_
    exact r_vret hG dX11_begins_13 (by first | (rw [if_pos zh1]; exact ⟨rfl, rfl, rfl, rfl⟩) | (rw [if_neg zh1]; exact ⟨rfl, rfl, rfl, rfl⟩))
set_option maxRecDepth 100000 in
theorem c_X11_readSlash (hM : x_Lay MR) (hL : L ≤ 600) (hl : D 124 7 = nI L) (ok : okR L s) : Cf X yX11_readSlash cX11_readSlash 1 none 4 [.ref 124] n SH (laQ D s) (lwQ E s) MR none (laQ D (slR (D 127) L s)) (lwQ E (slR (D 127) L s)) MR := by
  refine Ct_of (by decide) (Nat.le_of_ble_eq_true rfl) (fun G hG => ?_)
  refine r_aload_n 0 rfl dX11_readSlash_0 ?_
  refine r_bipush (v := 47) rfl dX11_readSlash_1 ?_
  refine r_Vf [.int _] dX11_readSlash_3 lk_X11_179 mb_X11_isSign in_X11_isSign se_X11_isSign rfl (c_X11_isSign) rfl rfl rfl (Nat.le_of_ble_eq_true rfl) (rfl) ?_
  refine r_ifne (tgt := 14) dX11_readSlash_6 (by decide) (fun zh6 => ?_) (fun zh6 => ?_)
  · refine r_aload_n 0 rfl dX11_readSlash_14 ?_
    refine r_Vn [] dX11_readSlash_15 lk_X11_173 mb_X11_next in_X11_next se_X11_next rfl (c_X11_next hM hL hl (by first | exact ok.1 | exact (okR_w (k := 1) (by decide) ok).1)) rfl rfl rfl (Nat.le_of_ble_eq_true rfl) (rfl) ?_
    exact r_vret hG dX11_readSlash_18 (by unfold slR; rw [b2z, decide_eq_false_iff_not] at zh6; first | (rw [if_neg zh6]; exact ⟨rfl, rfl, rfl, rfl⟩) | (rw [if_pos (Classical.not_not.mp zh6)]; exact ⟨rfl, rfl, rfl, rfl⟩))
  · refine r_aload_n 0 rfl dX11_readSlash_9 ?_
    refine r_iconst (v := 1) rfl dX11_readSlash_10 ?_
    refine r_Vn [.int _] dX11_readSlash_11 lk_X11_183 mb_X11_wrong in_X11_wrong se_X11_wrong rfl (c_X11_wrong) rfl rfl rfl (Nat.le_of_ble_eq_true rfl) (rfl) ?_
    refine r_aload_n 0 rfl dX11_readSlash_14 ?_
    refine r_Vn [] dX11_readSlash_15 lk_X11_173 mb_X11_next in_X11_next se_X11_next rfl (c_X11_next hM hL hl (by first | exact ok.1 | exact (okR_w (k := 1) (by decide) ok).1)) rfl rfl rfl (Nat.le_of_ble_eq_true rfl) (rfl) ?_
    exact r_vret hG dX11_readSlash_18 (by unfold slR; rw [b2z, decide_eq_false_iff_not] at zh6; first | (rw [if_neg zh6]; exact ⟨rfl, rfl, rfl, rfl⟩) | (rw [if_pos (Classical.not_not.mp zh6)]; exact ⟨rfl, rfl, rfl, rfl⟩))
set_option maxRecDepth 100000 in
theorem c_X11_stateAt (hM : x_Lay MR) (hL : L ≤ 600) (hl : D 124 7 = nI L) (ok : okR L s) : Cf X yX11_stateAt cX11_stateAt 2 (some .int) 4 [.ref 124] n SH (laQ D s) (lwQ E s) MR (some (.int (saR (D 127) L (D 131 0) s).1)) (laQ D (saR (D 127) L (D 131 0) s).2) (lwQ E (saR (D 127) L (D 131 0) s).2) MR := by
  refine Ct_of (by decide) (Nat.le_of_ble_eq_true rfl) (fun G hG => ?_)
  have e9 : laQ D s 124 9 = s.2.2.2.1 := rfl
  have e11 : ∀ s : Rs, laQ D s 124 11 = s.2.2.2.2.1 := fun _ => rfl
  have e131 : laQ D s 131 = D 131 := laQ_b s (by decide)
  have c0 : (0 : Int32).toNatClampNeg = 0 := rfl
  refine r_aload_n 0 rfl dX11_stateAt_0 ?_
  refine r_geti dX11_stateAt_1 fl_X11_135 rfl ?_
  refine r_iconst (v := 3) rfl dX11_stateAt_4 ?_
  refine r_icmpeq (tgt := 16) dX11_stateAt_5 (by decide) (fun zh5 => ?_) (fun zh5 => ?_)
  · refine r_aload_n 0 rfl dX11_stateAt_16 ?_
    refine r_geti dX11_stateAt_17 fl_X11_156 rfl ?_
    refine r_aload_n 0 rfl dX11_stateAt_20 ?_
    refine r_getr dX11_stateAt_21 fl_X11_40 rfl (hM _ _ _ rfl) ?_
    refine r_iconst (v := 0) rfl dX11_stateAt_24 ?_
    refine r_iald dX11_stateAt_25 rfl (vpk (k := 0) (by decide) (by decide) rfl) ?_
    refine r_icmplt (tgt := 34) dX11_stateAt_26 (by decide) (fun zh26 => ?_) (fun zh26 => ?_)
    · refine r_aload_n 0 rfl dX11_stateAt_34 ?_
      refine r_geti dX11_stateAt_35 fl_X11_156 rfl ?_
      refine r_nmi (fun zv38 ze38 => ?_)
      refine r_istore_n (ls2 := [(1, .int zv38), (0, .ref 124)]) dX11_stateAt_38 (by decide) rfl ?_
      refine r_aload_n 1 rfl dX11_stateAt_39 ?_
      refine r_Vn [] dX11_stateAt_40 lk_X11_173 mb_X11_next in_X11_next se_X11_next rfl (c_X11_next hM hL hl (by first | exact ok.1 | exact (okR_w (k := 1) (by decide) ok).1 | exact (okR_w (k := 2) (by decide) ok).1)) rfl rfl rfl (Nat.le_of_ble_eq_true rfl) (rfl) ?_
      refine r_iload_n 0 rfl dX11_stateAt_43 ?_
      exact r_iret hG dX11_stateAt_44 (by
          rw [e9] at zh5
          unfold saR
          first
            | (rw [if_neg zh5]; exact ⟨by rw [ze38]; rfl, rfl, rfl, rfl⟩)
            | (rw [e11, e131, c0] at zh26; rw [if_pos zh5, if_pos zh26]; exact ⟨by rw [ze38]; rfl, rfl, rfl, rfl⟩)
            | (rw [e11, e131, c0] at zh26; rw [if_pos zh5, if_neg zh26]; exact ⟨by rw [ze38]; rfl, rfl, rfl, rfl⟩))
    · refine r_aload_n 0 rfl dX11_stateAt_29 ?_
      refine r_iconst (v := 2) rfl dX11_stateAt_30 ?_
      refine r_Vn [.int _] dX11_stateAt_31 lk_X11_183 mb_X11_wrong in_X11_wrong se_X11_wrong rfl (c_X11_wrong) rfl rfl rfl (Nat.le_of_ble_eq_true rfl) (rfl) ?_
      refine r_aload_n 0 rfl dX11_stateAt_34 ?_
      refine r_geti dX11_stateAt_35 fl_X11_156 rfl ?_
      refine r_nmi (fun zv38 ze38 => ?_)
      refine r_istore_n (ls2 := [(1, .int zv38), (0, .ref 124)]) dX11_stateAt_38 (by decide) rfl ?_
      refine r_aload_n 1 rfl dX11_stateAt_39 ?_
      refine r_Vn [] dX11_stateAt_40 lk_X11_173 mb_X11_next in_X11_next se_X11_next rfl (c_X11_next hM hL hl (by first | exact ok.1 | exact (okR_w (k := 1) (by decide) ok).1 | exact (okR_w (k := 2) (by decide) ok).1)) rfl rfl rfl (Nat.le_of_ble_eq_true rfl) (rfl) ?_
      refine r_iload_n 0 rfl dX11_stateAt_43 ?_
      exact r_iret hG dX11_stateAt_44 (by
          rw [e9] at zh5
          unfold saR
          first
            | (rw [if_neg zh5]; exact ⟨by rw [ze38]; rfl, rfl, rfl, rfl⟩)
            | (rw [e11, e131, c0] at zh26; rw [if_pos zh5, if_pos zh26]; exact ⟨by rw [ze38]; rfl, rfl, rfl, rfl⟩)
            | (rw [e11, e131, c0] at zh26; rw [if_pos zh5, if_neg zh26]; exact ⟨by rw [ze38]; rfl, rfl, rfl, rfl⟩))
  · refine r_aload_n 0 rfl dX11_stateAt_8 ?_
    refine r_iconst (v := 1) rfl dX11_stateAt_9 ?_
    refine r_Vn [.int _] dX11_stateAt_10 lk_X11_183 mb_X11_wrong in_X11_wrong se_X11_wrong rfl (c_X11_wrong) rfl rfl rfl (Nat.le_of_ble_eq_true rfl) (rfl) ?_
    refine r_goto (tgt := 34) dX11_stateAt_13 (by decide) ?_
    refine r_aload_n 0 rfl dX11_stateAt_34 ?_
    refine r_geti dX11_stateAt_35 fl_X11_156 rfl ?_
    refine r_nmi (fun zv38 ze38 => ?_)
    refine r_istore_n (ls2 := [(1, .int zv38), (0, .ref 124)]) dX11_stateAt_38 (by decide) rfl ?_
    refine r_aload_n 1 rfl dX11_stateAt_39 ?_
    refine r_Vn [] dX11_stateAt_40 lk_X11_173 mb_X11_next in_X11_next se_X11_next rfl (c_X11_next hM hL hl (by first | exact ok.1 | exact (okR_w (k := 1) (by decide) ok).1 | exact (okR_w (k := 2) (by decide) ok).1)) rfl rfl rfl (Nat.le_of_ble_eq_true rfl) (rfl) ?_
    refine r_iload_n 0 rfl dX11_stateAt_43 ?_
    exact r_iret hG dX11_stateAt_44 (by
        rw [e9] at zh5
        unfold saR
        first
          | (rw [if_neg zh5]; exact ⟨by rw [ze38]; rfl, rfl, rfl, rfl⟩)
          | (rw [e11, e131, c0] at zh26; rw [if_pos zh5, if_pos zh26]; exact ⟨by rw [ze38]; rfl, rfl, rfl, rfl⟩)
          | (rw [e11, e131, c0] at zh26; rw [if_pos zh5, if_neg zh26]; exact ⟨by rw [ze38]; rfl, rfl, rfl, rfl⟩))
set_option maxRecDepth 100000 in
theorem c_X11_readLetters_1 (hM : x_Lay MR) (hL : L ≤ 600) (hl : D 124 7 = nI L) (ok : okR L s) : Cf X yX11_readLetters cX11_readLetters 4 (some .int) 4 [.ref 124, .int 1] n SH (laQ D s) (lwQ E s) MR (some (.int (rlR (D 127) L 97 4 (L + 1) (0, s)).1)) (laQ D (rlR (D 127) L 97 4 (L + 1) (0, s)).2) (lwQ E (rlR (D 127) L 97 4 (L + 1) (0, s)).2) MR := by
  refine Ct_of (by decide) (Nat.le_of_ble_eq_true rfl) (fun G hG => ?_)
  obtain ⟨z, hz⟩ : ∃ z, z = rlR (D 127) L 97 4 (L + 1) (0, s) := ⟨_, rfl⟩
  rw [← hz] at hG
  have loop : ∀ f, ∀ q : Int32 × Rs, okR L q.2 → (q.2.2.2.2.1 = 2 → L - q.2.2.1 < f) → rlR (D 127) L 97 4 f q = z → RW X G RX11 cX11_readLetters 4 (x_rm 4 0 0) n SH (laQ D q.2) (lwQ E q.2) MR 0 0 18 [(3, .int (ltR q.2 97 4)), (2, .int q.1), (0, .ref 124), (1, .int 1)] [] := by
    intro f
    induction f with
    | zero =>
      intro q hok hm hq
      have hk : ltR q.2 97 4 = -1 := ltR_k (fun c => absurd (hm c) (Nat.not_lt_zero _))
      refine r_iload_n 0 rfl dX11_readLetters_18 ?_
      refine r_iconst (v := (-1)) rfl dX11_readLetters_19 ?_
      refine r_icmpeq (tgt := 65) dX11_readLetters_20 (by decide) (fun zh20 => ?_) (fun zh20 => ?_)
      rotate_left
      · exact absurd zh20 (fun c => c hk)
      refine r_iload_n 1 rfl dX11_readLetters_65 ?_
      exact r_iret hG dX11_readLetters_66 (by rw [← hq]; exact ⟨rfl, rfl, rfl, rfl⟩)
    | succ f ih =>
      intro q hok hm hq
      rw [rlR] at hq
      have hkd : ¬ ltR q.2 97 4 = -1 → q.2.2.2.2.1 = 2 := fun c => Classical.not_not.mp fun d => c (ltR_k d)
      refine r_iload_n 0 rfl dX11_readLetters_18 ?_
      refine r_iconst (v := (-1)) rfl dX11_readLetters_19 ?_
      refine r_icmpeq (tgt := 65) dX11_readLetters_20 (by decide) (fun zh20 => ?_) (fun zh20 => ?_)
      · refine r_iload_n 1 rfl dX11_readLetters_65 ?_
        exact r_iret hG dX11_readLetters_66 (by rw [if_pos zh20] at hq; rw [← hq]; exact ⟨rfl, rfl, rfl, rfl⟩)
      · refine r_iload_n 1 rfl dX11_readLetters_23 ?_
        refine r_iload_n 0 rfl dX11_readLetters_24 ?_
        refine r_Sf [.int _, .int _] dX11_readLetters_25 lk_X11_114 mb_X11_bit sc_X11_bit rfl (c_X11_bit) rfl (Nat.le_of_ble_eq_true rfl) (rfl) ?_
        refine r_ifeq (tgt := 36) dX11_readLetters_28 (by decide) (fun zh28 => ?_) (fun zh28 => ?_)
        · refine r_iload_n 1 rfl dX11_readLetters_36 ?_
          refine r_iconst (v := 1) rfl dX11_readLetters_37 ?_
          refine r_iload_n 0 rfl dX11_readLetters_38 ?_
          refine r_ishl dX11_readLetters_39 ?_
          refine r_ior dX11_readLetters_40 ?_
          refine r_nmi (fun zv41 ze41 => ?_)
          refine r_istore_n (ls2 := [(2, .int zv41), (3, .int (ltR q.2 97 4)), (0, .ref 124), (1, .int 1)]) dX11_readLetters_41 (by decide) rfl ?_
          refine r_aload_n 2 rfl dX11_readLetters_42 ?_
          refine r_Vn [] dX11_readLetters_43 lk_X11_173 mb_X11_next in_X11_next se_X11_next rfl (c_X11_next hM hL hl (by first | exact hok.1 | exact (okR_w (k := 3) (by decide) hok).1)) rfl rfl rfl (Nat.le_of_ble_eq_true rfl) (rfl) ?_
          refine r_iload_n 3 rfl dX11_readLetters_46 ?_
          refine r_ifeq (tgt := 57) dX11_readLetters_47 (by decide) (fun zh47 => ?_) (fun zh47 => ?_)
          · exact absurd zh47 (by decide)
          refine r_aload_n 2 rfl dX11_readLetters_50 ?_
          refine r_Vf [] dX11_readLetters_51 lk_X11_224 mb_X11_inputAt in_X11_inputAt se_X11_inputAt rfl (c_X11_inputAt) rfl rfl rfl (Nat.le_of_ble_eq_true rfl) (rfl) ?_
          refine r_goto (tgt := 61) dX11_readLetters_54 (by decide) ?_
          refine r_nmi (fun zv61 ze61 => ?_)
          refine r_istore_n (ls2 := [(3, .int zv61), (2, .int zv41), (0, .ref 124), (1, .int 1)]) dX11_readLetters_61 (by decide) rfl ?_
          refine r_goto (tgt := 18) dX11_readLetters_62 (by decide) ?_
          rw [if_neg zh20] at hq
          subst ze61; subst ze41
          have hm2 := mea (T := D 127) (b := bitR q.1 (ltR q.2 97 4)) hok (hkd zh20) (hm (hkd zh20))
          rw [b2z] at zh28
          first
            | (rw [if_neg (show ¬ bitR q.1 (ltR q.2 97 4) = true by simpa using zh28)] at hm2 hq; exact r_sub [0, 1, 2, 3] rfl (ih (q.1 ||| ((1 : Int32) <<< (ltR q.2 97 4 &&& 31)), nxR (D 127) L q.2) hm2.1 hm2.2 hq))
            | (rw [if_pos (show bitR q.1 (ltR q.2 97 4) = true by simpa using zh28)] at hm2 hq; exact r_sub [0, 1, 2, 3] rfl (ih (q.1 ||| ((1 : Int32) <<< (ltR q.2 97 4 &&& 31)), nxR (D 127) L (wrR q.2 3)) hm2.1 hm2.2 hq))
        · refine r_aload_n 2 rfl dX11_readLetters_31 ?_
          refine r_iconst (v := 3) rfl dX11_readLetters_32 ?_
          refine r_Vn [.int _] dX11_readLetters_33 lk_X11_183 mb_X11_wrong in_X11_wrong se_X11_wrong rfl (c_X11_wrong) rfl rfl rfl (Nat.le_of_ble_eq_true rfl) (rfl) ?_
          refine r_iload_n 1 rfl dX11_readLetters_36 ?_
          refine r_iconst (v := 1) rfl dX11_readLetters_37 ?_
          refine r_iload_n 0 rfl dX11_readLetters_38 ?_
          refine r_ishl dX11_readLetters_39 ?_
          refine r_ior dX11_readLetters_40 ?_
          refine r_nmi (fun zv41 ze41 => ?_)
          refine r_istore_n (ls2 := [(2, .int zv41), (3, .int (ltR q.2 97 4)), (0, .ref 124), (1, .int 1)]) dX11_readLetters_41 (by decide) rfl ?_
          refine r_aload_n 2 rfl dX11_readLetters_42 ?_
          refine r_Vn [] dX11_readLetters_43 lk_X11_173 mb_X11_next in_X11_next se_X11_next rfl (c_X11_next hM hL hl (by first | exact hok.1 | exact (okR_w (k := 3) (by decide) hok).1)) rfl rfl rfl (Nat.le_of_ble_eq_true rfl) (rfl) ?_
          refine r_iload_n 3 rfl dX11_readLetters_46 ?_
          refine r_ifeq (tgt := 57) dX11_readLetters_47 (by decide) (fun zh47 => ?_) (fun zh47 => ?_)
          · exact absurd zh47 (by decide)
          refine r_aload_n 2 rfl dX11_readLetters_50 ?_
          refine r_Vf [] dX11_readLetters_51 lk_X11_224 mb_X11_inputAt in_X11_inputAt se_X11_inputAt rfl (c_X11_inputAt) rfl rfl rfl (Nat.le_of_ble_eq_true rfl) (rfl) ?_
          refine r_goto (tgt := 61) dX11_readLetters_54 (by decide) ?_
          refine r_nmi (fun zv61 ze61 => ?_)
          refine r_istore_n (ls2 := [(3, .int zv61), (2, .int zv41), (0, .ref 124), (1, .int 1)]) dX11_readLetters_61 (by decide) rfl ?_
          refine r_goto (tgt := 18) dX11_readLetters_62 (by decide) ?_
          rw [if_neg zh20] at hq
          subst ze61; subst ze41
          have hm2 := mea (T := D 127) (b := bitR q.1 (ltR q.2 97 4)) hok (hkd zh20) (hm (hkd zh20))
          rw [b2z] at zh28
          first
            | (rw [if_neg (show ¬ bitR q.1 (ltR q.2 97 4) = true by simpa using zh28)] at hm2 hq; exact r_sub [0, 1, 2, 3] rfl (ih (q.1 ||| ((1 : Int32) <<< (ltR q.2 97 4 &&& 31)), nxR (D 127) L q.2) hm2.1 hm2.2 hq))
            | (rw [if_pos (show bitR q.1 (ltR q.2 97 4) = true by simpa using zh28)] at hm2 hq; exact r_sub [0, 1, 2, 3] rfl (ih (q.1 ||| ((1 : Int32) <<< (ltR q.2 97 4 &&& 31)), nxR (D 127) L (wrR q.2 3)) hm2.1 hm2.2 hq))
  refine r_iconst (v := 0) rfl dX11_readLetters_0 ?_
  refine r_istore_n (ls2 := [(2, .int 0), (0, .ref 124), (1, .int 1)]) dX11_readLetters_1 (by decide) rfl ?_
  refine r_iload_n 2 rfl dX11_readLetters_2 ?_
  refine r_ifeq (tgt := 13) dX11_readLetters_3 (by decide) (fun zh3 => ?_) (fun zh3 => ?_)
  · exact absurd zh3 (by decide)
  refine r_aload_n 1 rfl dX11_readLetters_6 ?_
  refine r_Vf [] dX11_readLetters_7 lk_X11_224 mb_X11_inputAt in_X11_inputAt se_X11_inputAt rfl (c_X11_inputAt) rfl rfl rfl (Nat.le_of_ble_eq_true rfl) (rfl) ?_
  refine r_goto (tgt := 17) dX11_readLetters_10 (by decide) ?_
  refine r_nmi (fun zv17 ze17 => ?_)
  refine r_istore_n (ls2 := [(3, .int zv17), (2, .int 0), (0, .ref 124), (1, .int 1)]) dX11_readLetters_17 (by decide) rfl ?_
  subst ze17
  exact r_sub [0, 1, 2, 3] rfl (loop (L + 1) (0, s) ok (fun _ => by omega) hz.symm)
set_option maxRecDepth 100000 in
theorem c_X11_readChanges_1 (hM : x_Lay MR) (hL : L ≤ 600) (hl : D 124 7 = nI L) (ok : okR L s) {z : Rs} (hz : z = rcR (D 127) L 97 4 (L + 1) (if ltR (zRS s) 97 4 = -1 then wrR (zRS s) 1 else zRS s)) : Cf X yX11_readChanges cX11_readChanges 3 none 4 [.ref 124, .int 1] n SH (laQ D s) (lwQ E s) MR none (laQ D z) (lwQ E z) MR := by
  refine Ct_of (by decide) (Nat.le_of_ble_eq_true rfl) (fun G hG => ?_)
  have er : ∀ q : Rs, laQ D q 124 21 = q.2.2.2.2.2.2.1 := fun _ => rfl
  have ei : ∀ q : Rs, laQ D q 124 22 = q.2.2.2.2.2.2.2 := fun _ => rfl
  have ez : lwQ E (zRS s) = lwQ E s := rfl
  have loop : ∀ f, ∀ q : Rs, okR L q → (q.2.2.2.1 = 2 → L - q.2.1 < f) → rcR (D 127) L 97 4 f q = z → RW X G RX11 cX11_readChanges 3 (x_rm 4 0 0) n SH (laQ D q) (lwQ E q) MR 0 0 40 [(2, .int (ltR q 97 4)), (0, .ref 124), (1, .int 1)] [] := by
    intro f
    induction f with
    | zero =>
      intro q hok hm hq
      have hk : ltR q 97 4 = -1 := ltR_k (fun c => absurd (hm c) (Nat.not_lt_zero _))
      refine r_iload_n 0 rfl dX11_readChanges_40 ?_
      refine r_iconst (v := (-1)) rfl dX11_readChanges_41 ?_
      refine r_icmpeq (tgt := 146) dX11_readChanges_42 (by decide) (fun zh42 => ?_) (fun zh42 => ?_)
      rotate_left
      · exact absurd zh42 (fun c => c hk)
      exact r_vret hG dX11_readChanges_146 (by rw [← hq]; exact ⟨rfl, rfl, rfl, rfl⟩)
    | succ f ih =>
      intro q hok hm hq
      rw [rcR] at hq
      have hkd : ¬ ltR q 97 4 = -1 → q.2.2.2.1 = 2 := fun c => Classical.not_not.mp fun d => c (ltR_k d)
      obtain ⟨kk, hkk⟩ : ∃ kk, kk = ltR q 97 4 := ⟨_, rfl⟩
      rw [← hkk] at hkd hq ⊢
      have j123 : ∀ q2, ¬ kk = -1 → okR L q2 → nxR (D 127) L q2 = c1R (D 127) L kk q → RW X G RX11 cX11_readChanges 3 (x_rm 4 0 0) n SH (laQ D q2) (lwQ E q2) MR 0 0 123 [(2, .int kk), (0, .ref 124), (1, .int 1)] [] := by
        intro q2 hne ok2 hq2
        rw [if_neg hne, ← hq2] at hq
        have hm2 := mea2 (T := D 127) (k := kk) hok (hkd hne) (hm (hkd hne))
        rw [← hq2] at hm2
        refine r_aload_n 1 rfl dX11_readChanges_123 ?_
        refine r_Vn [] dX11_readChanges_124 lk_X11_173 mb_X11_next in_X11_next se_X11_next rfl (c_X11_next hM hL hl ok2.1) rfl rfl rfl (Nat.le_of_ble_eq_true rfl) (rfl) ?_
        refine r_iload_n 2 rfl dX11_readChanges_127 ?_
        refine r_ifeq (tgt := 138) dX11_readChanges_128 (by decide) (fun zh128 => ?_) (fun zh128 => ?_)
        · exact absurd zh128 (by decide)
        refine r_aload_n 1 rfl dX11_readChanges_131 ?_
        refine r_Vf [] dX11_readChanges_132 lk_X11_224 mb_X11_inputAt in_X11_inputAt se_X11_inputAt rfl (c_X11_inputAt) rfl rfl rfl (Nat.le_of_ble_eq_true rfl) (rfl) ?_
        refine r_goto (tgt := 142) dX11_readChanges_135 (by decide) ?_
        refine r_nmi (fun zv142 ze142 => ?_)
        refine r_istore_n (ls2 := [(2, .int zv142), (0, .ref 124), (1, .int 1)]) dX11_readChanges_142 (by decide) rfl ?_
        refine r_goto (tgt := 40) dX11_readChanges_143 (by decide) ?_
        subst ze142
        exact r_sub [0, 1, 2] rfl (ih _ (okR_n ok2) hm2 hq)
      have j66 : ∀ q1, ¬ kk = -1 → okR L q1 → q1 = (if bitR (q.2.2.2.2.2.2.1 ||| q.2.2.2.2.2.2.2) kk = true then wrR q 3 else q) → RW X G RX11 cX11_readChanges 3 (x_rm 4 0 0) n SH (laQ D q1) (lwQ E q1) MR 0 0 66 [(2, .int kk), (0, .ref 124), (1, .int 1)] [] := by
        intro q1 hne ok1 hq1
        have hc1 : ∀ q2, q2 = cgR (nxR (D 127) L q1) ((1 : Int32) <<< (kk &&& 31)) → nxR (D 127) L q2 = c1R (D 127) L kk q := fun q2 h2 => by unfold c1R; rw [h2, hq1]
        have okn := okR_n (T := D 127) ok1
        refine r_aload_n 1 rfl dX11_readChanges_66 ?_
        refine r_Vn [] dX11_readChanges_67 lk_X11_173 mb_X11_next in_X11_next se_X11_next rfl (c_X11_next hM hL hl ok1.1) rfl rfl rfl (Nat.le_of_ble_eq_true rfl) (rfl) ?_
        refine r_aload_n 1 rfl dX11_readChanges_70 ?_
        refine r_bipush (v := 43) rfl dX11_readChanges_71 ?_
        refine r_Vf [.int _] dX11_readChanges_73 lk_X11_179 mb_X11_isSign in_X11_isSign se_X11_isSign rfl (c_X11_isSign) rfl rfl rfl (Nat.le_of_ble_eq_true rfl) (rfl) ?_
        refine r_ifeq (tgt := 94) dX11_readChanges_76 (by decide) (fun zh76 => ?_) (fun zh76 => ?_)
        · refine r_aload_n 1 rfl dX11_readChanges_94 ?_
          refine r_bipush (v := 45) rfl dX11_readChanges_95 ?_
          refine r_Vf [.int _] dX11_readChanges_97 lk_X11_179 mb_X11_isSign in_X11_isSign se_X11_isSign rfl (c_X11_isSign) rfl rfl rfl (Nat.le_of_ble_eq_true rfl) (rfl) ?_
          refine r_ifeq (tgt := 118) dX11_readChanges_100 (by decide) (fun zh100 => ?_) (fun zh100 => ?_)
          · refine r_aload_n 1 rfl dX11_readChanges_118 ?_
            refine r_iconst (v := 1) rfl dX11_readChanges_119 ?_
            refine r_Vn [.int _] dX11_readChanges_120 lk_X11_183 mb_X11_wrong in_X11_wrong se_X11_wrong rfl (c_X11_wrong) rfl rfl rfl (Nat.le_of_ble_eq_true rfl) (rfl) ?_
            rw [b2z, decide_eq_false_iff_not] at zh76
            first
              | (rw [er, laQ_r]; exact j123 (oRi (nxR (D 127) L q1) ((1 : Int32) <<< (kk &&& 31))) hne (okR_i okn) (hc1 _ (by unfold cgR; rw [if_pos (Classical.not_not.mp zh76)])))
              | (rw [b2z, decide_eq_false_iff_not] at zh100; rw [ei, laQ_i]; exact j123 (oSi (nxR (D 127) L q1) ((1 : Int32) <<< (kk &&& 31))) hne (okR_o okn) (hc1 _ (by unfold cgR; rw [if_neg zh76, if_pos (Classical.not_not.mp zh100)])))
              | (rw [b2z, decide_eq_false_iff_not] at zh100; exact j123 _ hne (okR_w (by decide) okn) (hc1 _ (by unfold cgR; rw [if_neg zh76, if_neg zh100])))
          · refine r_aload_n 1 rfl dX11_readChanges_103 ?_
            refine r_dup rfl dX11_readChanges_104 ?_
            refine r_geti dX11_readChanges_105 fl_X11_233 rfl ?_
            refine r_iconst (v := 1) rfl dX11_readChanges_108 ?_
            refine r_iload_n 0 rfl dX11_readChanges_109 ?_
            refine r_ishl dX11_readChanges_110 ?_
            refine r_ior dX11_readChanges_111 ?_
            refine r_puti dX11_readChanges_112 fl_X11_233 rfl rfl rfl ?_
            refine r_goto (tgt := 123) dX11_readChanges_115 (by decide) ?_
            rw [b2z, decide_eq_false_iff_not] at zh76
            first
              | (rw [er, laQ_r]; exact j123 (oRi (nxR (D 127) L q1) ((1 : Int32) <<< (kk &&& 31))) hne (okR_i okn) (hc1 _ (by unfold cgR; rw [if_pos (Classical.not_not.mp zh76)])))
              | (rw [b2z, decide_eq_false_iff_not] at zh100; rw [ei, laQ_i]; exact j123 (oSi (nxR (D 127) L q1) ((1 : Int32) <<< (kk &&& 31))) hne (okR_o okn) (hc1 _ (by unfold cgR; rw [if_neg zh76, if_pos (Classical.not_not.mp zh100)])))
              | (rw [b2z, decide_eq_false_iff_not] at zh100; exact j123 _ hne (okR_w (by decide) okn) (hc1 _ (by unfold cgR; rw [if_neg zh76, if_neg zh100])))
        · refine r_aload_n 1 rfl dX11_readChanges_79 ?_
          refine r_dup rfl dX11_readChanges_80 ?_
          refine r_geti dX11_readChanges_81 fl_X11_230 rfl ?_
          refine r_iconst (v := 1) rfl dX11_readChanges_84 ?_
          refine r_iload_n 0 rfl dX11_readChanges_85 ?_
          refine r_ishl dX11_readChanges_86 ?_
          refine r_ior dX11_readChanges_87 ?_
          refine r_puti dX11_readChanges_88 fl_X11_230 rfl rfl rfl ?_
          refine r_goto (tgt := 123) dX11_readChanges_91 (by decide) ?_
          rw [b2z, decide_eq_false_iff_not] at zh76
          first
            | (rw [er, laQ_r]; exact j123 (oRi (nxR (D 127) L q1) ((1 : Int32) <<< (kk &&& 31))) hne (okR_i okn) (hc1 _ (by unfold cgR; rw [if_pos (Classical.not_not.mp zh76)])))
            | (rw [b2z, decide_eq_false_iff_not] at zh100; rw [ei, laQ_i]; exact j123 (oSi (nxR (D 127) L q1) ((1 : Int32) <<< (kk &&& 31))) hne (okR_o okn) (hc1 _ (by unfold cgR; rw [if_neg zh76, if_pos (Classical.not_not.mp zh100)])))
            | (rw [b2z, decide_eq_false_iff_not] at zh100; exact j123 _ hne (okR_w (by decide) okn) (hc1 _ (by unfold cgR; rw [if_neg zh76, if_neg zh100])))
      refine r_iload_n 0 rfl dX11_readChanges_40 ?_
      refine r_iconst (v := (-1)) rfl dX11_readChanges_41 ?_
      refine r_icmpeq (tgt := 146) dX11_readChanges_42 (by decide) (fun zh42 => ?_) (fun zh42 => ?_)
      · exact r_vret hG dX11_readChanges_146 (by rw [if_pos zh42] at hq; rw [← hq]; exact ⟨rfl, rfl, rfl, rfl⟩)
      · refine r_aload_n 1 rfl dX11_readChanges_45 ?_
        refine r_geti dX11_readChanges_46 fl_X11_230 rfl ?_
        refine r_aload_n 1 rfl dX11_readChanges_49 ?_
        refine r_geti dX11_readChanges_50 fl_X11_233 rfl ?_
        refine r_ior dX11_readChanges_53 ?_
        refine r_iload_n 0 rfl dX11_readChanges_54 ?_
        refine r_Sf [.int _, .int _] dX11_readChanges_55 lk_X11_114 mb_X11_bit sc_X11_bit rfl (c_X11_bit) rfl (Nat.le_of_ble_eq_true rfl) (rfl) ?_
        refine r_ifeq (tgt := 66) dX11_readChanges_58 (by decide) (fun zh58 => ?_) (fun zh58 => ?_)
        · rw [er, ei, b2z] at zh58
          first
            | exact j66 q zh42 hok (by rw [if_neg (by simpa using zh58)])
            | exact j66 _ zh42 (okR_w (by decide) hok) (by rw [if_pos (by simpa using zh58)])
        · refine r_aload_n 1 rfl dX11_readChanges_61 ?_
          refine r_iconst (v := 3) rfl dX11_readChanges_62 ?_
          refine r_Vn [.int _] dX11_readChanges_63 lk_X11_183 mb_X11_wrong in_X11_wrong se_X11_wrong rfl (c_X11_wrong) rfl rfl rfl (Nat.le_of_ble_eq_true rfl) (rfl) ?_
          rw [er, ei, b2z] at zh58
          first
            | exact j66 q zh42 hok (by rw [if_neg (by simpa using zh58)])
            | exact j66 _ zh42 (okR_w (by decide) hok) (by rw [if_pos (by simpa using zh58)])
  refine r_aload_n 0 rfl dX11_readChanges_0 ?_
  refine r_iconst (v := 0) rfl dX11_readChanges_1 ?_
  refine r_puti dX11_readChanges_2 fl_X11_230 rfl rfl rfl ?_
  refine r_aload_n 0 rfl dX11_readChanges_5 ?_
  refine r_iconst (v := 0) rfl dX11_readChanges_6 ?_
  refine r_puti dX11_readChanges_7 fl_X11_233 rfl rfl rfl ?_
  refine r_mem (show _ = laQ D (zRS s) by rw [laQ_r, laQ_i]; rfl) ez.symm rfl ?_
  refine r_iload_n 1 rfl dX11_readChanges_10 ?_
  refine r_ifeq (tgt := 21) dX11_readChanges_11 (by decide) (fun zh11 => ?_) (fun zh11 => ?_)
  · exact absurd zh11 (by decide)
  refine r_aload_n 0 rfl dX11_readChanges_14 ?_
  refine r_Vf [] dX11_readChanges_15 lk_X11_224 mb_X11_inputAt in_X11_inputAt se_X11_inputAt rfl (c_X11_inputAt (s := zRS s)) rfl rfl rfl (Nat.le_of_ble_eq_true rfl) (rfl) ?_
  refine r_goto (tgt := 25) dX11_readChanges_18 (by decide) ?_
  refine r_nmi (fun zv25 ze25 => ?_)
  refine r_istore_n (ls2 := [(2, .int zv25), (0, .ref 124), (1, .int 1)]) dX11_readChanges_25 (by decide) rfl ?_
  refine r_iload_n 2 rfl dX11_readChanges_26 ?_
  refine r_ifeq (tgt := 40) dX11_readChanges_27 (by decide) (fun zh27 => ?_) (fun zh27 => ?_)
  · exact absurd zh27 (by decide)
  refine r_iload_n 0 rfl dX11_readChanges_30 ?_
  refine r_iconst (v := (-1)) rfl dX11_readChanges_31 ?_
  refine r_icmpne (tgt := 40) dX11_readChanges_32 (by decide) (fun zh32 => ?_) (fun zh32 => ?_)
  · subst ze25
    first
      | (rw [if_neg zh32] at hz; exact r_sub [0, 1, 2] rfl (loop (L + 1) _ (okR_z ok) (fun _ => by omega) hz.symm))
      | (rw [if_pos zh32] at hz; have q := loop (L + 1) (wrR (zRS s) 1) (okR_w (by decide) (okR_z ok)) (fun _ => by omega) hz.symm; rw [ltR_k (s := wrR (zRS s) 1) (fun z => wr_n (Or.inl z))] at q; rw [zh32]; exact r_sub [0, 1, 2] rfl q)
  · refine r_aload_n 1 rfl dX11_readChanges_35 ?_
    refine r_iconst (v := 1) rfl dX11_readChanges_36 ?_
    refine r_Vn [.int _] dX11_readChanges_37 lk_X11_183 mb_X11_wrong in_X11_wrong se_X11_wrong rfl (c_X11_wrong (s := zRS s)) rfl rfl rfl (Nat.le_of_ble_eq_true rfl) (rfl) ?_
    subst ze25
    first
      | (rw [if_neg zh32] at hz; exact r_sub [0, 1, 2] rfl (loop (L + 1) _ (okR_z ok) (fun _ => by omega) hz.symm))
      | (rw [if_pos zh32] at hz; have q := loop (L + 1) (wrR (zRS s) 1) (okR_w (by decide) (okR_z ok)) (fun _ => by omega) hz.symm; rw [ltR_k (s := wrR (zRS s) 1) (fun z => wr_n (Or.inl z))] at q; rw [zh32]; exact r_sub [0, 1, 2] rfl q)
set_option maxRecDepth 100000 in
theorem c_X11_readLetters_0 (hM : x_Lay MR) (hL : L ≤ 600) (hl : D 124 7 = nI L) (ok : okR L s) : Cf X yX11_readLetters cX11_readLetters 4 (some .int) 4 [.ref 124, .int 0] n SH (laQ D s) (lwQ E s) MR (some (.int (rlR (D 127) L 112 3 (L + 1) (0, s)).1)) (laQ D (rlR (D 127) L 112 3 (L + 1) (0, s)).2) (lwQ E (rlR (D 127) L 112 3 (L + 1) (0, s)).2) MR := by
  refine Ct_of (by decide) (Nat.le_of_ble_eq_true rfl) (fun G hG => ?_)
  obtain ⟨z, hz⟩ : ∃ z, z = rlR (D 127) L 112 3 (L + 1) (0, s) := ⟨_, rfl⟩
  rw [← hz] at hG
  have loop : ∀ f, ∀ q : Int32 × Rs, okR L q.2 → (q.2.2.2.2.1 = 2 → L - q.2.2.1 < f) → rlR (D 127) L 112 3 f q = z → RW X G RX11 cX11_readLetters 4 (x_rm 4 0 0) n SH (laQ D q.2) (lwQ E q.2) MR 0 0 18 [(3, .int (ltR q.2 112 3)), (2, .int q.1), (0, .ref 124), (1, .int 0)] [] := by
    intro f
    induction f with
    | zero =>
      intro q hok hm hq
      have hk : ltR q.2 112 3 = -1 := ltR_k (fun c => absurd (hm c) (Nat.not_lt_zero _))
      refine r_iload_n 0 rfl dX11_readLetters_18 ?_
      refine r_iconst (v := (-1)) rfl dX11_readLetters_19 ?_
      refine r_icmpeq (tgt := 65) dX11_readLetters_20 (by decide) (fun zh20 => ?_) (fun zh20 => ?_)
      rotate_left
      · exact absurd zh20 (fun c => c hk)
      refine r_iload_n 1 rfl dX11_readLetters_65 ?_
      exact r_iret hG dX11_readLetters_66 (by rw [← hq]; exact ⟨rfl, rfl, rfl, rfl⟩)
    | succ f ih =>
      intro q hok hm hq
      rw [rlR] at hq
      have hkd : ¬ ltR q.2 112 3 = -1 → q.2.2.2.2.1 = 2 := fun c => Classical.not_not.mp fun d => c (ltR_k d)
      refine r_iload_n 0 rfl dX11_readLetters_18 ?_
      refine r_iconst (v := (-1)) rfl dX11_readLetters_19 ?_
      refine r_icmpeq (tgt := 65) dX11_readLetters_20 (by decide) (fun zh20 => ?_) (fun zh20 => ?_)
      · refine r_iload_n 1 rfl dX11_readLetters_65 ?_
        exact r_iret hG dX11_readLetters_66 (by rw [if_pos zh20] at hq; rw [← hq]; exact ⟨rfl, rfl, rfl, rfl⟩)
      · refine r_iload_n 1 rfl dX11_readLetters_23 ?_
        refine r_iload_n 0 rfl dX11_readLetters_24 ?_
        refine r_Sf [.int _, .int _] dX11_readLetters_25 lk_X11_114 mb_X11_bit sc_X11_bit rfl (c_X11_bit) rfl (Nat.le_of_ble_eq_true rfl) (rfl) ?_
        refine r_ifeq (tgt := 36) dX11_readLetters_28 (by decide) (fun zh28 => ?_) (fun zh28 => ?_)
        · refine r_iload_n 1 rfl dX11_readLetters_36 ?_
          refine r_iconst (v := 1) rfl dX11_readLetters_37 ?_
          refine r_iload_n 0 rfl dX11_readLetters_38 ?_
          refine r_ishl dX11_readLetters_39 ?_
          refine r_ior dX11_readLetters_40 ?_
          refine r_nmi (fun zv41 ze41 => ?_)
          refine r_istore_n (ls2 := [(2, .int zv41), (3, .int (ltR q.2 112 3)), (0, .ref 124), (1, .int 0)]) dX11_readLetters_41 (by decide) rfl ?_
          refine r_aload_n 2 rfl dX11_readLetters_42 ?_
          refine r_Vn [] dX11_readLetters_43 lk_X11_173 mb_X11_next in_X11_next se_X11_next rfl (c_X11_next hM hL hl (by first | exact hok.1 | exact (okR_w (k := 3) (by decide) hok).1)) rfl rfl rfl (Nat.le_of_ble_eq_true rfl) (rfl) ?_
          refine r_iload_n 3 rfl dX11_readLetters_46 ?_
          refine r_ifeq (tgt := 57) dX11_readLetters_47 (by decide) (fun zh47 => ?_) (fun zh47 => ?_)
          rotate_left
          · exact absurd zh47 (by decide)
          refine r_aload_n 2 rfl dX11_readLetters_57 ?_
          refine r_Vf [] dX11_readLetters_58 lk_X11_227 mb_X11_outputAt in_X11_outputAt se_X11_outputAt rfl (c_X11_outputAt) rfl rfl rfl (Nat.le_of_ble_eq_true rfl) (rfl) ?_
          refine r_nmi (fun zv61 ze61 => ?_)
          refine r_istore_n (ls2 := [(3, .int zv61), (2, .int zv41), (0, .ref 124), (1, .int 0)]) dX11_readLetters_61 (by decide) rfl ?_
          refine r_goto (tgt := 18) dX11_readLetters_62 (by decide) ?_
          rw [if_neg zh20] at hq
          subst ze61; subst ze41
          have hm2 := mea (T := D 127) (b := bitR q.1 (ltR q.2 112 3)) hok (hkd zh20) (hm (hkd zh20))
          rw [b2z] at zh28
          first
            | (rw [if_neg (show ¬ bitR q.1 (ltR q.2 112 3) = true by simpa using zh28)] at hm2 hq; exact r_sub [0, 1, 2, 3] rfl (ih (q.1 ||| ((1 : Int32) <<< (ltR q.2 112 3 &&& 31)), nxR (D 127) L q.2) hm2.1 hm2.2 hq))
            | (rw [if_pos (show bitR q.1 (ltR q.2 112 3) = true by simpa using zh28)] at hm2 hq; exact r_sub [0, 1, 2, 3] rfl (ih (q.1 ||| ((1 : Int32) <<< (ltR q.2 112 3 &&& 31)), nxR (D 127) L (wrR q.2 3)) hm2.1 hm2.2 hq))
        · refine r_aload_n 2 rfl dX11_readLetters_31 ?_
          refine r_iconst (v := 3) rfl dX11_readLetters_32 ?_
          refine r_Vn [.int _] dX11_readLetters_33 lk_X11_183 mb_X11_wrong in_X11_wrong se_X11_wrong rfl (c_X11_wrong) rfl rfl rfl (Nat.le_of_ble_eq_true rfl) (rfl) ?_
          refine r_iload_n 1 rfl dX11_readLetters_36 ?_
          refine r_iconst (v := 1) rfl dX11_readLetters_37 ?_
          refine r_iload_n 0 rfl dX11_readLetters_38 ?_
          refine r_ishl dX11_readLetters_39 ?_
          refine r_ior dX11_readLetters_40 ?_
          refine r_nmi (fun zv41 ze41 => ?_)
          refine r_istore_n (ls2 := [(2, .int zv41), (3, .int (ltR q.2 112 3)), (0, .ref 124), (1, .int 0)]) dX11_readLetters_41 (by decide) rfl ?_
          refine r_aload_n 2 rfl dX11_readLetters_42 ?_
          refine r_Vn [] dX11_readLetters_43 lk_X11_173 mb_X11_next in_X11_next se_X11_next rfl (c_X11_next hM hL hl (by first | exact hok.1 | exact (okR_w (k := 3) (by decide) hok).1)) rfl rfl rfl (Nat.le_of_ble_eq_true rfl) (rfl) ?_
          refine r_iload_n 3 rfl dX11_readLetters_46 ?_
          refine r_ifeq (tgt := 57) dX11_readLetters_47 (by decide) (fun zh47 => ?_) (fun zh47 => ?_)
          rotate_left
          · exact absurd zh47 (by decide)
          refine r_aload_n 2 rfl dX11_readLetters_57 ?_
          refine r_Vf [] dX11_readLetters_58 lk_X11_227 mb_X11_outputAt in_X11_outputAt se_X11_outputAt rfl (c_X11_outputAt) rfl rfl rfl (Nat.le_of_ble_eq_true rfl) (rfl) ?_
          refine r_nmi (fun zv61 ze61 => ?_)
          refine r_istore_n (ls2 := [(3, .int zv61), (2, .int zv41), (0, .ref 124), (1, .int 0)]) dX11_readLetters_61 (by decide) rfl ?_
          refine r_goto (tgt := 18) dX11_readLetters_62 (by decide) ?_
          rw [if_neg zh20] at hq
          subst ze61; subst ze41
          have hm2 := mea (T := D 127) (b := bitR q.1 (ltR q.2 112 3)) hok (hkd zh20) (hm (hkd zh20))
          rw [b2z] at zh28
          first
            | (rw [if_neg (show ¬ bitR q.1 (ltR q.2 112 3) = true by simpa using zh28)] at hm2 hq; exact r_sub [0, 1, 2, 3] rfl (ih (q.1 ||| ((1 : Int32) <<< (ltR q.2 112 3 &&& 31)), nxR (D 127) L q.2) hm2.1 hm2.2 hq))
            | (rw [if_pos (show bitR q.1 (ltR q.2 112 3) = true by simpa using zh28)] at hm2 hq; exact r_sub [0, 1, 2, 3] rfl (ih (q.1 ||| ((1 : Int32) <<< (ltR q.2 112 3 &&& 31)), nxR (D 127) L (wrR q.2 3)) hm2.1 hm2.2 hq))
  refine r_iconst (v := 0) rfl dX11_readLetters_0 ?_
  refine r_istore_n (ls2 := [(2, .int 0), (0, .ref 124), (1, .int 0)]) dX11_readLetters_1 (by decide) rfl ?_
  refine r_iload_n 2 rfl dX11_readLetters_2 ?_
  refine r_ifeq (tgt := 13) dX11_readLetters_3 (by decide) (fun zh3 => ?_) (fun zh3 => ?_)
  rotate_left
  · exact absurd zh3 (by decide)
  refine r_aload_n 1 rfl dX11_readLetters_13 ?_
  refine r_Vf [] dX11_readLetters_14 lk_X11_227 mb_X11_outputAt in_X11_outputAt se_X11_outputAt rfl (c_X11_outputAt) rfl rfl rfl (Nat.le_of_ble_eq_true rfl) (rfl) ?_
  refine r_nmi (fun zv17 ze17 => ?_)
  refine r_istore_n (ls2 := [(3, .int zv17), (2, .int 0), (0, .ref 124), (1, .int 0)]) dX11_readLetters_17 (by decide) rfl ?_
  subst ze17
  exact r_sub [0, 1, 2, 3] rfl (loop (L + 1) (0, s) ok (fun _ => by omega) hz.symm)
set_option maxRecDepth 100000 in
theorem c_X11_readChanges_0 (hM : x_Lay MR) (hL : L ≤ 600) (hl : D 124 7 = nI L) (ok : okR L s) {z : Rs} (hz : z = rcR (D 127) L 112 3 (L + 1) (zRS s)) : Cf X yX11_readChanges cX11_readChanges 3 none 4 [.ref 124, .int 0] n SH (laQ D s) (lwQ E s) MR none (laQ D z) (lwQ E z) MR := by
  refine Ct_of (by decide) (Nat.le_of_ble_eq_true rfl) (fun G hG => ?_)
  have er : ∀ q : Rs, laQ D q 124 21 = q.2.2.2.2.2.2.1 := fun _ => rfl
  have ei : ∀ q : Rs, laQ D q 124 22 = q.2.2.2.2.2.2.2 := fun _ => rfl
  have ez : lwQ E (zRS s) = lwQ E s := rfl
  have loop : ∀ f, ∀ q : Rs, okR L q → (q.2.2.2.1 = 2 → L - q.2.1 < f) → rcR (D 127) L 112 3 f q = z → RW X G RX11 cX11_readChanges 3 (x_rm 4 0 0) n SH (laQ D q) (lwQ E q) MR 0 0 40 [(2, .int (ltR q 112 3)), (0, .ref 124), (1, .int 0)] [] := by
    intro f
    induction f with
    | zero =>
      intro q hok hm hq
      have hk : ltR q 112 3 = -1 := ltR_k (fun c => absurd (hm c) (Nat.not_lt_zero _))
      refine r_iload_n 0 rfl dX11_readChanges_40 ?_
      refine r_iconst (v := (-1)) rfl dX11_readChanges_41 ?_
      refine r_icmpeq (tgt := 146) dX11_readChanges_42 (by decide) (fun zh42 => ?_) (fun zh42 => ?_)
      rotate_left
      · exact absurd zh42 (fun c => c hk)
      exact r_vret hG dX11_readChanges_146 (by rw [← hq]; exact ⟨rfl, rfl, rfl, rfl⟩)
    | succ f ih =>
      intro q hok hm hq
      rw [rcR] at hq
      have hkd : ¬ ltR q 112 3 = -1 → q.2.2.2.1 = 2 := fun c => Classical.not_not.mp fun d => c (ltR_k d)
      obtain ⟨kk, hkk⟩ : ∃ kk, kk = ltR q 112 3 := ⟨_, rfl⟩
      rw [← hkk] at hkd hq ⊢
      have j123 : ∀ q2, ¬ kk = -1 → okR L q2 → nxR (D 127) L q2 = c1R (D 127) L kk q → RW X G RX11 cX11_readChanges 3 (x_rm 4 0 0) n SH (laQ D q2) (lwQ E q2) MR 0 0 123 [(2, .int kk), (0, .ref 124), (1, .int 0)] [] := by
        intro q2 hne ok2 hq2
        rw [if_neg hne, ← hq2] at hq
        have hm2 := mea2 (T := D 127) (k := kk) hok (hkd hne) (hm (hkd hne))
        rw [← hq2] at hm2
        refine r_aload_n 1 rfl dX11_readChanges_123 ?_
        refine r_Vn [] dX11_readChanges_124 lk_X11_173 mb_X11_next in_X11_next se_X11_next rfl (c_X11_next hM hL hl ok2.1) rfl rfl rfl (Nat.le_of_ble_eq_true rfl) (rfl) ?_
        refine r_iload_n 2 rfl dX11_readChanges_127 ?_
        refine r_ifeq (tgt := 138) dX11_readChanges_128 (by decide) (fun zh128 => ?_) (fun zh128 => ?_)
        rotate_left
        · exact absurd zh128 (by decide)
        refine r_aload_n 1 rfl dX11_readChanges_138 ?_
        refine r_Vf [] dX11_readChanges_139 lk_X11_227 mb_X11_outputAt in_X11_outputAt se_X11_outputAt rfl (c_X11_outputAt) rfl rfl rfl (Nat.le_of_ble_eq_true rfl) (rfl) ?_
        refine r_nmi (fun zv142 ze142 => ?_)
        refine r_istore_n (ls2 := [(2, .int zv142), (0, .ref 124), (1, .int 0)]) dX11_readChanges_142 (by decide) rfl ?_
        refine r_goto (tgt := 40) dX11_readChanges_143 (by decide) ?_
        subst ze142
        exact r_sub [0, 1, 2] rfl (ih _ (okR_n ok2) hm2 hq)
      have j66 : ∀ q1, ¬ kk = -1 → okR L q1 → q1 = (if bitR (q.2.2.2.2.2.2.1 ||| q.2.2.2.2.2.2.2) kk = true then wrR q 3 else q) → RW X G RX11 cX11_readChanges 3 (x_rm 4 0 0) n SH (laQ D q1) (lwQ E q1) MR 0 0 66 [(2, .int kk), (0, .ref 124), (1, .int 0)] [] := by
        intro q1 hne ok1 hq1
        have hc1 : ∀ q2, q2 = cgR (nxR (D 127) L q1) ((1 : Int32) <<< (kk &&& 31)) → nxR (D 127) L q2 = c1R (D 127) L kk q := fun q2 h2 => by unfold c1R; rw [h2, hq1]
        have okn := okR_n (T := D 127) ok1
        refine r_aload_n 1 rfl dX11_readChanges_66 ?_
        refine r_Vn [] dX11_readChanges_67 lk_X11_173 mb_X11_next in_X11_next se_X11_next rfl (c_X11_next hM hL hl ok1.1) rfl rfl rfl (Nat.le_of_ble_eq_true rfl) (rfl) ?_
        refine r_aload_n 1 rfl dX11_readChanges_70 ?_
        refine r_bipush (v := 43) rfl dX11_readChanges_71 ?_
        refine r_Vf [.int _] dX11_readChanges_73 lk_X11_179 mb_X11_isSign in_X11_isSign se_X11_isSign rfl (c_X11_isSign) rfl rfl rfl (Nat.le_of_ble_eq_true rfl) (rfl) ?_
        refine r_ifeq (tgt := 94) dX11_readChanges_76 (by decide) (fun zh76 => ?_) (fun zh76 => ?_)
        · refine r_aload_n 1 rfl dX11_readChanges_94 ?_
          refine r_bipush (v := 45) rfl dX11_readChanges_95 ?_
          refine r_Vf [.int _] dX11_readChanges_97 lk_X11_179 mb_X11_isSign in_X11_isSign se_X11_isSign rfl (c_X11_isSign) rfl rfl rfl (Nat.le_of_ble_eq_true rfl) (rfl) ?_
          refine r_ifeq (tgt := 118) dX11_readChanges_100 (by decide) (fun zh100 => ?_) (fun zh100 => ?_)
          · refine r_aload_n 1 rfl dX11_readChanges_118 ?_
            refine r_iconst (v := 1) rfl dX11_readChanges_119 ?_
            refine r_Vn [.int _] dX11_readChanges_120 lk_X11_183 mb_X11_wrong in_X11_wrong se_X11_wrong rfl (c_X11_wrong) rfl rfl rfl (Nat.le_of_ble_eq_true rfl) (rfl) ?_
            rw [b2z, decide_eq_false_iff_not] at zh76
            first
              | (rw [er, laQ_r]; exact j123 (oRi (nxR (D 127) L q1) ((1 : Int32) <<< (kk &&& 31))) hne (okR_i okn) (hc1 _ (by unfold cgR; rw [if_pos (Classical.not_not.mp zh76)])))
              | (rw [b2z, decide_eq_false_iff_not] at zh100; rw [ei, laQ_i]; exact j123 (oSi (nxR (D 127) L q1) ((1 : Int32) <<< (kk &&& 31))) hne (okR_o okn) (hc1 _ (by unfold cgR; rw [if_neg zh76, if_pos (Classical.not_not.mp zh100)])))
              | (rw [b2z, decide_eq_false_iff_not] at zh100; exact j123 _ hne (okR_w (by decide) okn) (hc1 _ (by unfold cgR; rw [if_neg zh76, if_neg zh100])))
          · refine r_aload_n 1 rfl dX11_readChanges_103 ?_
            refine r_dup rfl dX11_readChanges_104 ?_
            refine r_geti dX11_readChanges_105 fl_X11_233 rfl ?_
            refine r_iconst (v := 1) rfl dX11_readChanges_108 ?_
            refine r_iload_n 0 rfl dX11_readChanges_109 ?_
            refine r_ishl dX11_readChanges_110 ?_
            refine r_ior dX11_readChanges_111 ?_
            refine r_puti dX11_readChanges_112 fl_X11_233 rfl rfl rfl ?_
            refine r_goto (tgt := 123) dX11_readChanges_115 (by decide) ?_
            rw [b2z, decide_eq_false_iff_not] at zh76
            first
              | (rw [er, laQ_r]; exact j123 (oRi (nxR (D 127) L q1) ((1 : Int32) <<< (kk &&& 31))) hne (okR_i okn) (hc1 _ (by unfold cgR; rw [if_pos (Classical.not_not.mp zh76)])))
              | (rw [b2z, decide_eq_false_iff_not] at zh100; rw [ei, laQ_i]; exact j123 (oSi (nxR (D 127) L q1) ((1 : Int32) <<< (kk &&& 31))) hne (okR_o okn) (hc1 _ (by unfold cgR; rw [if_neg zh76, if_pos (Classical.not_not.mp zh100)])))
              | (rw [b2z, decide_eq_false_iff_not] at zh100; exact j123 _ hne (okR_w (by decide) okn) (hc1 _ (by unfold cgR; rw [if_neg zh76, if_neg zh100])))
        · refine r_aload_n 1 rfl dX11_readChanges_79 ?_
          refine r_dup rfl dX11_readChanges_80 ?_
          refine r_geti dX11_readChanges_81 fl_X11_230 rfl ?_
          refine r_iconst (v := 1) rfl dX11_readChanges_84 ?_
          refine r_iload_n 0 rfl dX11_readChanges_85 ?_
          refine r_ishl dX11_readChanges_86 ?_
          refine r_ior dX11_readChanges_87 ?_
          refine r_puti dX11_readChanges_88 fl_X11_230 rfl rfl rfl ?_
          refine r_goto (tgt := 123) dX11_readChanges_91 (by decide) ?_
          rw [b2z, decide_eq_false_iff_not] at zh76
          first
            | (rw [er, laQ_r]; exact j123 (oRi (nxR (D 127) L q1) ((1 : Int32) <<< (kk &&& 31))) hne (okR_i okn) (hc1 _ (by unfold cgR; rw [if_pos (Classical.not_not.mp zh76)])))
            | (rw [b2z, decide_eq_false_iff_not] at zh100; rw [ei, laQ_i]; exact j123 (oSi (nxR (D 127) L q1) ((1 : Int32) <<< (kk &&& 31))) hne (okR_o okn) (hc1 _ (by unfold cgR; rw [if_neg zh76, if_pos (Classical.not_not.mp zh100)])))
            | (rw [b2z, decide_eq_false_iff_not] at zh100; exact j123 _ hne (okR_w (by decide) okn) (hc1 _ (by unfold cgR; rw [if_neg zh76, if_neg zh100])))
      refine r_iload_n 0 rfl dX11_readChanges_40 ?_
      refine r_iconst (v := (-1)) rfl dX11_readChanges_41 ?_
      refine r_icmpeq (tgt := 146) dX11_readChanges_42 (by decide) (fun zh42 => ?_) (fun zh42 => ?_)
      · exact r_vret hG dX11_readChanges_146 (by rw [if_pos zh42] at hq; rw [← hq]; exact ⟨rfl, rfl, rfl, rfl⟩)
      · refine r_aload_n 1 rfl dX11_readChanges_45 ?_
        refine r_geti dX11_readChanges_46 fl_X11_230 rfl ?_
        refine r_aload_n 1 rfl dX11_readChanges_49 ?_
        refine r_geti dX11_readChanges_50 fl_X11_233 rfl ?_
        refine r_ior dX11_readChanges_53 ?_
        refine r_iload_n 0 rfl dX11_readChanges_54 ?_
        refine r_Sf [.int _, .int _] dX11_readChanges_55 lk_X11_114 mb_X11_bit sc_X11_bit rfl (c_X11_bit) rfl (Nat.le_of_ble_eq_true rfl) (rfl) ?_
        refine r_ifeq (tgt := 66) dX11_readChanges_58 (by decide) (fun zh58 => ?_) (fun zh58 => ?_)
        · rw [er, ei, b2z] at zh58
          first
            | exact j66 q zh42 hok (by rw [if_neg (by simpa using zh58)])
            | exact j66 _ zh42 (okR_w (by decide) hok) (by rw [if_pos (by simpa using zh58)])
        · refine r_aload_n 1 rfl dX11_readChanges_61 ?_
          refine r_iconst (v := 3) rfl dX11_readChanges_62 ?_
          refine r_Vn [.int _] dX11_readChanges_63 lk_X11_183 mb_X11_wrong in_X11_wrong se_X11_wrong rfl (c_X11_wrong) rfl rfl rfl (Nat.le_of_ble_eq_true rfl) (rfl) ?_
          rw [er, ei, b2z] at zh58
          first
            | exact j66 q zh42 hok (by rw [if_neg (by simpa using zh58)])
            | exact j66 _ zh42 (okR_w (by decide) hok) (by rw [if_pos (by simpa using zh58)])
  refine r_aload_n 0 rfl dX11_readChanges_0 ?_
  refine r_iconst (v := 0) rfl dX11_readChanges_1 ?_
  refine r_puti dX11_readChanges_2 fl_X11_230 rfl rfl rfl ?_
  refine r_aload_n 0 rfl dX11_readChanges_5 ?_
  refine r_iconst (v := 0) rfl dX11_readChanges_6 ?_
  refine r_puti dX11_readChanges_7 fl_X11_233 rfl rfl rfl ?_
  refine r_mem (show _ = laQ D (zRS s) by rw [laQ_r, laQ_i]; rfl) ez.symm rfl ?_
  refine r_iload_n 1 rfl dX11_readChanges_10 ?_
  refine r_ifeq (tgt := 21) dX11_readChanges_11 (by decide) (fun zh11 => ?_) (fun zh11 => ?_)
  rotate_left
  · exact absurd zh11 (by decide)
  refine r_aload_n 0 rfl dX11_readChanges_21 ?_
  refine r_Vf [] dX11_readChanges_22 lk_X11_227 mb_X11_outputAt in_X11_outputAt se_X11_outputAt rfl (c_X11_outputAt (s := zRS s)) rfl rfl rfl (Nat.le_of_ble_eq_true rfl) (rfl) ?_
  refine r_nmi (fun zv25 ze25 => ?_)
  refine r_istore_n (ls2 := [(2, .int zv25), (0, .ref 124), (1, .int 0)]) dX11_readChanges_25 (by decide) rfl ?_
  refine r_iload_n 2 rfl dX11_readChanges_26 ?_
  refine r_ifeq (tgt := 40) dX11_readChanges_27 (by decide) (fun zh27 => ?_) (fun zh27 => ?_)
  rotate_left
  · exact absurd zh27 (by decide)
  subst ze25
  exact r_sub [0, 1, 2] rfl (loop (L + 1) (zRS s) (okR_z ok) (fun _ => by omega) hz.symm)
  
  
end rparse

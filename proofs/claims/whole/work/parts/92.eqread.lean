/-! class and reference agree: what is read of TOKENS -/
/-- both stand at the TOKEN at p, p at least a, without a FAULT -/
def TK (T : Nat → Int32) (L a : Nat) (s : Ps) (r : Rs) : Prop := s.1 = 0 ∧ r.1 = 0 ∧ ∃ p, a ≤ p ∧ p ≤ L ∧ s.2.2.2.1 = p ∧ r.2.1 = p ∧ tkc T L p s.2.2.1 s.2.2.2.2.1 r.2.2.2.1 r.2.2.1 r.2.2.2.2.1 r.2.2.2.2.2.1
/-- both have met the same FAULT -/
def FL (s : Ps) (r : Rs) : Prop := s.1 = r.1 ∧ 0 < r.1 ∧ s.2.1 = nI r.2.1 ∧ r.2.2.2.1 = 0
/-- the class has met a WORD that goes on nothing, the reference will -/
def PD (s : Ps) (r : Rs) : Prop := s.1 = 1 ∧ r.1 = 0 ∧ s.2.1 = nI r.2.1 ∧ r.2.2.2.1 = 2
theorem psn0 {x : Int32} (h : 0 < x) : ¬ x = 0 := fun z => by rw [z] at h; exact Int32.lt_irrefl h
section read
variable {T : Nat → Int32} {L a : Nat} {s : Ps} {r : Rs}
theorem TK_a {a' : Nat} (ha : a' ≤ a) (h : TK T L a s r) : TK T L a' s r := by
  obtain ⟨h1, h2, p, h3, h4⟩ := h
  exact ⟨h1, h2, p, by omega, h4⟩
theorem FL_f (h : FL s r) (k : Int32) : FL (failP s k) (wrR r k) := by
  obtain ⟨h1, h2, h3, h4⟩ := h
  have hn := psn0 h2
  unfold failP wrR
  rw [if_neg (by rw [h1]; exact hn), if_neg hn]
  exact ⟨h1, h2, h3, rfl⟩
theorem FL_w (h : FL s r) (k : Int32) : FL s (wrR r k) := by
  obtain ⟨h1, h2, h3, h4⟩ := h
  have hn := psn0 h2
  unfold wrR
  rw [if_neg hn]
  exact ⟨h1, h2, h3, rfl⟩
theorem FL_p (h : FL s r) (k : Int32) : FL (failP s k) r := by
  obtain ⟨h1, h2, h3, h4⟩ := h
  have hn := psn0 h2
  unfold failP
  rw [if_neg (by rw [h1]; exact hn)]
  exact ⟨h1, h2, h3, h4⟩
theorem FL_n (h : FL s r) : FL s (nxR T L r) := by
  unfold nxR
  rw [if_pos h.2.1]
  exact h
theorem TK_f (h : TK T L a s r) {k : Int32} (hk : 0 < k) : FL (failP s k) (wrR r k) := by
  obtain ⟨h1, h2, p, h3, h4, h5, h6, h7⟩ := h
  unfold failP wrR
  rw [if_pos h1, if_pos h2]
  exact ⟨rfl, hk, by show nI s.2.2.2.1 = nI r.2.1; rw [h5, h6], rfl⟩
theorem PD_f (h : PD s r) : FL s (wrR r 1) := by
  obtain ⟨h1, h2, h3, h4⟩ := h
  unfold wrR
  rw [if_pos h2]
  exact ⟨h1, (by decide : (0 : Int32) < 1), h3, rfl⟩
/-- on to the next, from a TOKEN that is one -/
theorem TK_n (hT : isBy T) (h : TK T L a s r) (hk : ¬ s.2.2.1 = 4) : TK T L a (stepP T L s) (nxR T L r) := by
  obtain ⟨h1, h2, p, h3, h4, h5, h6, h7⟩ := h
  have key : s.2.2.2.2.1 = r.2.2.1 ∧ p ≤ s.2.2.2.2.1 ∧ s.2.2.2.2.1 ≤ L := by
    rcases h7 with ⟨c1, c2, c3, c4, c5⟩ | ⟨c1, c2, c3, c4, c5, c6⟩ | ⟨c1, c2, c3, c4, c5, c6⟩ | ⟨c1, c2, c3, c4, c5, c6⟩ | ⟨c1, c2⟩
    · omega
    · omega
    · omega
    · omega
    · exact absurd c1 hk
  obtain ⟨k1, k2, k3⟩ := key
  have e := sk_eq (L := L) hT (L - s.2.2.2.2.1) s.2.2.2.2.1 (by omega)
  have hle := row_le (T := T) (L := L) 32 32 (L - s.2.2.2.2.1) s.2.2.2.2.1 (by omega)
  unfold stepP nxR
  rw [if_neg (by rw [h2]; exact Int32.lt_irrefl)]
  refine ⟨h1, ?_, tkS T L s.2.2.2.2.1, ?_, ?_, rfl, ?_, ?_⟩
  · unfold nxQ
    split
    · exact h2
    · split
      · exact h2
      · split
        · exact h2
        · exact h2
  · unfold tkS; omega
  · unfold tkS; omega
  · show (nxQ T L (skR T L (L - r.2.2.1) r.2.2.1) r).2.1 = _
    rw [← k1, ← e]
    unfold nxQ
    split
    · rfl
    · split
      · rfl
      · split
        · rfl
        · rfl
  · show tkc T L (tkS T L s.2.2.2.2.1) (tokQ T L (tkS T L s.2.2.2.2.1)).1 (tokQ T L (tkS T L s.2.2.2.2.1)).2 (nxQ T L (skR T L (L - r.2.2.1) r.2.2.1) r).2.2.2.1 (nxQ T L (skR T L (L - r.2.2.1) r.2.2.1) r).2.2.1 (nxQ T L (skR T L (L - r.2.2.1) r.2.2.1) r).2.2.2.2.1 (nxQ T L (skR T L (L - r.2.2.1) r.2.2.1) r).2.2.2.2.2.1
    rw [← k1, ← e]
    exact tok_c hT (p := tkS T L s.2.2.2.2.1) (by unfold tkS; omega) r
theorem nx_ud (r : Rs) : (nxR T L r).2.2.2.2.2.2 = r.2.2.2.2.2.2 := by
  unfold nxR
  split
  · rfl
  · unfold nxQ
    split
    · rfl
    · split
      · rfl
      · split
        · rfl
        · rfl
/-- past a WORD, a WHOLE, a sign the place grows -/
theorem TK_n1 (hT : isBy T) (h : TK T L a s r) (hk : s.2.2.1 = 1 ∨ s.2.2.1 = 2 ∨ s.2.2.1 = 3) : TK T L (a + 1) (stepP T L s) (nxR T L r) := by
  have hk4 : ¬ s.2.2.1 = 4 := by rcases hk with z | z | z <;> rw [z] <;> decide
  obtain ⟨h1, h2, p, h3, h4, h5, h6, h7⟩ := id h
  obtain ⟨g1, g2, p', g3, g4, g5, g6, g7⟩ := TK_n hT h hk4
  refine ⟨g1, g2, p', ?_, g4, g5, g6, g7⟩
  have hgt : p < s.2.2.2.2.1 ∧ s.2.2.2.2.1 ≤ L := by
    rcases h7 with ⟨c1, c2, c3, c4, c5⟩ | ⟨c1, c2, c3, c4, c5, c6⟩ | ⟨c1, c2, c3, c4, c5, c6⟩ | ⟨c1, c2, c3, c4, c5, c6⟩ | ⟨c1, c2⟩
    · rw [c2] at hk; exact absurd hk (by decide)
    · omega
    · omega
    · omega
    · exact absurd c1 hk4
  have hle := row_le (T := T) (L := L) 32 32 (L - s.2.2.2.2.1) s.2.2.2.2.1 (by omega)
  have : p' = tkS T L s.2.2.2.2.1 := g5.symm
  unfold tkS at this
  omega
theorem TK_z (h : TK T L a s r) : TK T L a (zUD s) (zRS r) := h
theorem TK_p (h : TK T L a s r) : ∃ p, a ≤ p ∧ p ≤ L := by
  obtain ⟨-, -, p, h3, h4, -⟩ := h
  exact ⟨p, h3, h4⟩
/-! kinds -/
theorem kd_word (h : TK T L a s r) : s.2.2.1 = 1 ↔ r.2.2.2.1 = 2 := by
  obtain ⟨h1, h2, p, h3, h4, h5, h6, h7⟩ := h
  rcases h7 with ⟨c1, c2, c3, c4, c5⟩ | ⟨c1, c2, c3, c4, c5, c6⟩ | ⟨c1, c2, c3, c4, c5, c6⟩ | ⟨c1, c2, c3, c4, c5, c6⟩ | ⟨c1, c2⟩
  · rw [c2, c4]; decide
  · rw [c3, c4]; decide
  · rw [c3, c4]; decide
  · rw [c2, c4]; decide
  · rw [c1, c2]; decide
theorem kd_end (h : TK T L a s r) : s.2.2.1 = 0 ↔ r.2.2.2.1 = 1 := by
  obtain ⟨h1, h2, p, h3, h4, h5, h6, h7⟩ := h
  rcases h7 with ⟨c1, c2, c3, c4, c5⟩ | ⟨c1, c2, c3, c4, c5, c6⟩ | ⟨c1, c2, c3, c4, c5, c6⟩ | ⟨c1, c2, c3, c4, c5, c6⟩ | ⟨c1, c2⟩
  · rw [c2, c4]; decide
  · rw [c3, c4]; decide
  · rw [c3, c4]; decide
  · rw [c2, c4]; decide
  · rw [c1, c2]; decide
theorem kd_whole (hT : isBy T) (h : TK T L a s r) : (s.2.2.1 = 2 ↔ r.2.2.2.1 = 3) ∧ (s.2.2.1 = 2 → r.2.2.2.2.1 = whlP T L s.2.2.2.1 (s.2.2.2.2.1 - s.2.2.2.1) ∧ ∃ n, n < 1000 ∧ r.2.2.2.2.1 = nI n) := by
  obtain ⟨h1, h2, p, h3, h4, h5, h6, h7⟩ := h
  rcases h7 with ⟨c1, c2, c3, c4, c5⟩ | ⟨c1, c2, c3, c4, c5, c6⟩ | ⟨c1, c2, c3, c4, c5, c6, c7, c8⟩ | ⟨c1, c2, c3, c4, c5, c6⟩ | ⟨c1, c2⟩
  · rw [c2, c4]; exact ⟨by decide, fun z => absurd z (by decide)⟩
  · rw [c3, c4]; exact ⟨by decide, fun z => absurd z (by decide)⟩
  · rw [c3, c4]
    refine ⟨by decide, fun _ => ⟨by rw [c7, h5], ?_⟩⟩
    have num : ∀ m, m ≤ s.2.2.2.2.1 - p → ∃ n, n < 10 ^ m ∧ whlP T L p m = nI n := by
      intro m
      induction m with
      | zero => intro _; exact ⟨0, by decide, rfl⟩
      | succ m ih =>
        intro hm
        obtain ⟨n, hn, e⟩ := ih (by omega)
        obtain ⟨b1, b2⟩ := c8 (p + m) (by omega) (by omega)
        have hV : byV T L (p + m) = nI (bN T (p + m)) := byV_n hT (by omega)
        refine ⟨n * 10 + bN T (p + m) - 48, ?_, ?_⟩
        · rw [Nat.pow_succ]; omega
        · rw [whlP, e, hV, show (10 : Int32) = nI 10 from rfl, pk_mul, nI_add, show (48 : Int32) = nI 48 from rfl, pk_sub (by omega)]
    obtain ⟨n, hn, e⟩ := num (s.2.2.2.2.1 - p) (Nat.le_refl _)
    have : 10 ^ (s.2.2.2.2.1 - p) ≤ 10 ^ 3 := Nat.pow_le_pow_right (by decide) c6
    exact ⟨n, by omega, by rw [c7, e]⟩
  · rw [c2, c4]; exact ⟨by decide, fun z => absurd z (by decide)⟩
  · rw [c1, c2]; exact ⟨by decide, fun z => absurd z (by decide)⟩
theorem sg_eq (hT : isBy T) (h : TK T L a s r) (c : Int32) : sgnP T L s c = decide (r.2.2.2.1 = 4 ∧ r.2.2.2.2.1 = c) := by
  obtain ⟨h1, h2, p, h3, h4, h5, h6, h7⟩ := h
  unfold sgnP
  rcases h7 with ⟨c1, c2, c3, c4, c5⟩ | ⟨c1, c2, c3, c4, c5, c6⟩ | ⟨c1, c2, c3, c4, c5, c6⟩ | ⟨c1, c2, c3, c4, c5, c6⟩ | ⟨c1, c2⟩
  · rw [c2, c4, decide_eq_false (show ¬ (0 : Int32) = 3 by decide), Bool.false_and, decide_eq_false (fun z => absurd z.1 (by decide))]
  · rw [c3, c4, decide_eq_false (show ¬ (1 : Int32) = 3 by decide), Bool.false_and, decide_eq_false (fun z => absurd z.1 (by decide))]
  · rw [c3, c4, decide_eq_false (show ¬ (2 : Int32) = 3 by decide), Bool.false_and, decide_eq_false (fun z => absurd z.1 (by decide))]
  · rw [c2, c4, c6, h5, byV_n hT c1, decide_eq_true (rfl : (3 : Int32) = 3), Bool.true_and, Bool.eq_iff_iff, decide_eq_true_eq, decide_eq_true_eq]
    exact ⟨fun z => ⟨rfl, z⟩, fun z => z.2⟩
  · rw [c1, c2, decide_eq_false (show ¬ (4 : Int32) = 3 by decide), Bool.false_and, decide_eq_false (fun z => absurd z.1 (by decide))]
theorem sg_kind (h : sgnP T L s 43 = true ∨ sgnP T L s 45 = true ∨ sgnP T L s 39 = true ∨ sgnP T L s 47 = true ∨ sgnP T L s 59 = true) : s.2.2.1 = 3 := by
  unfold sgnP at h
  rcases h with h | h | h | h | h <;> exact of_decide_eq_true ((Bool.and_eq_true _ _).mp h).1
/-! letters -/
def ltV (w : Int64) (x m : Int32) : Int32 := if ¬ w < x.toInt64 ∧ w < (x + m).toInt64 then w.toInt32 - x else -1
theorem kl1 : ∀ n, n < 256 → ltV (lN n) 97 4 = ixV 4 (nI n) ∧ ltV (lN n) 112 3 = ixV 5 (nI n) := by decide +kernel
theorem kl2 : ∀ n, n < 256 → (if ltV (lN n) 97 4 = -1 then (if ltV (lN n) 115 2 = -1 then -1 else 4 + ltV (lN n) 115 2) else ltV (lN n) 97 4) = ixV 7 (nI n) ∧ (if ltV (lN n) 112 3 = -1 then (if ltV (lN n) 115 2 = -1 then -1 else 3 + ltV (lN n) 115 2) else ltV (lN n) 112 3) = ixV 6 (nI n) := by decide +kernel
theorem ltV_big {n : Nat} (h1 : 256 ≤ n) (h2 : n < 2 ^ 62) : ltV (lN n) 97 4 = -1 ∧ ltV (lN n) 112 3 = -1 ∧ ltV (lN n) 115 2 = -1 := by
  have key : ∀ k : Int64, k.toInt < 256 → ¬ lN n < k := fun k hk z => by
    have := Int64.lt_iff_toInt_lt.mp z
    have e : (lN n).toInt = (n : Int) := lg_ofNat_toInt (by omega)
    omega
  unfold ltV
  refine ⟨if_neg (fun z => key _ ?_ z.2), if_neg (fun z => key _ ?_ z.2), if_neg (fun z => key _ ?_ z.2)⟩ <;> decide
theorem ltR_V (r : Rs) (x m : Int32) : ltR r x m = if r.2.2.2.1 = 2 then ltV r.2.2.2.2.2.1 x m else -1 := by
  unfold ltR ltV
  by_cases h : r.2.2.2.1 = 2
  · rw [if_pos h]
    by_cases z : ¬ r.2.2.2.2.2.1 < x.toInt64 ∧ r.2.2.2.2.2.1 < (x + m).toInt64
    · rw [if_pos ⟨h, z⟩, if_pos z]
    · rw [if_neg (fun y => z y.2), if_neg z]
  · rw [if_neg h, if_neg (fun y => h y.1)]
theorem let_eq (hT : isBy T) (h : TK T L a s r) : letP T L s 4 = ltR r 97 4 ∧ letP T L s 5 = ltR r 112 3 ∧ letP T L s 7 = lit r ∧ letP T L s 6 = fnR r := by
  obtain ⟨h1, h2, p, h3, h4, h5, h6, h7⟩ := h
  have no : ¬ s.2.2.1 = 1 → ¬ r.2.2.2.1 = 2 → letP T L s 4 = ltR r 97 4 ∧ letP T L s 5 = ltR r 112 3 ∧ letP T L s 7 = lit r ∧ letP T L s 6 = fnR r := fun n1 n2 => by
    have e : ∀ i, letP T L s i = -1 := fun i => by unfold letP; rw [if_neg (fun z => n1 z.1)]
    have e2 : ∀ x m, ltR r x m = -1 := fun x m => by rw [ltR_V, if_neg n2]
    unfold lit fnR
    rw [e, e, e, e, e2, e2, e2, if_pos rfl, if_pos rfl]
    exact ⟨rfl, rfl, rfl, rfl⟩
  rcases h7 with ⟨c1, c2, c3, c4, c5⟩ | ⟨c1, c2, c3, c4, c5, c6, c7, c8⟩ | ⟨c1, c2, c3, c4, c5, c6⟩ | ⟨c1, c2, c3, c4, c5, c6⟩ | ⟨c1, c2⟩
  · exact no (by rw [c2]; decide) (by rw [c4]; decide)
  · have e2 : ∀ x m, ltR r x m = ltV (lN (pkW T p (s.2.2.2.2.1 - p))) x m := fun x m => by rw [ltR_V, if_pos c4, c7]
    unfold lit fnR
    rw [e2, e2, e2]
    by_cases z : s.2.2.2.2.1 - p = 1
    · have hb := (by_n hT p).1
      have e : ∀ i, letP T L s i = ixV i (nI (bN T p)) := fun i => by unfold letP; rw [if_pos ⟨c3, by rw [h5]; exact z⟩, h5, byV_n hT (by omega)]
      have ew : pkW T p (s.2.2.2.2.1 - p) = bN T p := by rw [z]; show 256 * 0 + bN T (p + 0) = _; rw [Nat.mul_zero, Nat.zero_add, Nat.add_zero]
      rw [ew, e, e, e, e]
      obtain ⟨k1, k2⟩ := kl1 _ hb
      obtain ⟨k3, k4⟩ := kl2 _ hb
      exact ⟨k1.symm, k2.symm, k3.symm, k4.symm⟩
    · have e : ∀ i, letP T L s i = -1 := fun i => by unfold letP; rw [if_neg (fun y => z (by rw [h5] at y; exact y.2))]
      obtain ⟨m, hm⟩ : ∃ m, s.2.2.2.2.1 - p = m + 2 := ⟨s.2.2.2.2.1 - p - 2, by omega⟩
      have hlow : 256 ≤ pkW T p (s.2.2.2.2.1 - p) := by
        rw [hm, pkW, pkW]
        have := (c8 (p + m) (by omega) (by omega)).1
        omega
      have hup := pkW_lt hT p (s.2.2.2.2.1 - p)
      have hpow : 256 ^ (s.2.2.2.2.1 - p) ≤ 256 ^ 5 := Nat.pow_le_pow_right (by decide) c6
      have h5n : (256 : Nat) ^ 5 = 1099511627776 := by decide
      obtain ⟨k1, k2, k3⟩ := ltV_big hlow (by omega)
      rw [e, e, e, e, k1, k2, k3, if_pos rfl, if_pos rfl]
      exact ⟨rfl, rfl, rfl, rfl⟩
  · exact no (by rw [c3]; decide) (by rw [c4]; decide)
  · exact no (by rw [c2]; decide) (by rw [c4]; decide)
  · exact no (by rw [c1]; decide) (by rw [c2]; decide)
theorem ix_rng : ∀ n, n < 256 → (ixV 4 (nI n) = -1 ∨ (List.range 4).any (fun l => decide (ixV 4 (nI n) = nI l)) = true) ∧ (ixV 5 (nI n) = -1 ∨ (List.range 3).any (fun l => decide (ixV 5 (nI n) = nI l)) = true) ∧ (ixV 7 (nI n) = -1 ∨ (List.range 6).any (fun l => decide (ixV 7 (nI n) = nI l)) = true) ∧ (ixV 6 (nI n) = -1 ∨ (List.range 5).any (fun l => decide (ixV 6 (nI n) = nI l)) = true) := by decide +kernel
/-- a letter's number, below nl; then the TOKEN is a WORD -/
theorem let_rng (hT : isBy T) (h : TK T L a s r) {i nl : Nat} (hi : (i = 4 ∧ nl = 4) ∨ (i = 5 ∧ nl = 3) ∨ (i = 7 ∧ nl = 6) ∨ (i = 6 ∧ nl = 5)) : letP T L s i = -1 ∨ (s.2.2.1 = 1 ∧ ∃ l, l < nl ∧ letP T L s i = nI l) := by
  unfold letP
  by_cases z : s.2.2.1 = 1 ∧ s.2.2.2.2.1 - s.2.2.2.1 = 1
  · rw [if_pos z]
    obtain ⟨h1, h2, p, h3, h4, h5, h6, h7⟩ := h
    have hpL : p < L := by
      rcases h7 with ⟨c1, c2, c3, c4, c5⟩ | ⟨c1, c2, c3, c4, c5, c6⟩ | ⟨c1, c2, c3, c4, c5, c6⟩ | ⟨c1, c2, c3, c4, c5, c6⟩ | ⟨c1, c2⟩
      · rw [c2] at z; exact absurd z.1 (by decide)
      · omega
      · omega
      · omega
      · rw [c1] at z; exact absurd z.1 (by decide)
    rw [h5, byV_n hT hpL]
    obtain ⟨r1, r2, r3, r4⟩ := ix_rng _ (by_n hT p).1
    have fin : ∀ {i nl : Nat}, (ixV i (nI (bN T p)) = -1 ∨ (List.range nl).any (fun l => decide (ixV i (nI (bN T p)) = nI l)) = true) → ixV i (nI (bN T p)) = -1 ∨ (s.2.2.1 = 1 ∧ ∃ l, l < nl ∧ ixV i (nI (bN T p)) = nI l) := fun q => q.elim Or.inl (fun y => by
      obtain ⟨l, hl, e⟩ := List.any_eq_true.mp y
      exact Or.inr ⟨z.1, l, List.mem_range.mp hl, of_decide_eq_true e⟩)
    rcases hi with ⟨rfl, rfl⟩ | ⟨rfl, rfl⟩ | ⟨rfl, rfl⟩ | ⟨rfl, rfl⟩
    · exact fin r1
    · exact fin r2
    · exact fin r3
    · exact fin r4
  · rw [if_neg z]
    exact Or.inl rfl
/-! the words of lines -/
def pkX (y : Nat → Nat) : Nat → Nat
  | 0 => 0
  | k + 1 => 256 * pkX y k + y k
theorem pk_inj {y : Nat → Nat} {p : Nat} (hT : isBy T) : ∀ m k, (∀ j, j < m → 0 < bN T (p + j)) → (∀ j, j < k → 0 < y j ∧ y j < 256) → (pkW T p m = pkX y k ↔ m = k ∧ ∀ j, j < m → bN T (p + j) = y j) := by
  intro m
  induction m with
  | zero =>
    intro k _ hy
    cases k with
    | zero => exact ⟨fun _ => ⟨rfl, fun j hj => absurd hj (Nat.not_lt_zero j)⟩, fun _ => rfl⟩
    | succ k =>
      have := hy k (Nat.lt_succ_self k)
      rw [pkW, pkX]
      exact ⟨fun z => by omega, fun z => by omega⟩
  | succ m ih =>
    intro k hb hy
    cases k with
    | zero =>
      have := hb m (Nat.lt_succ_self m)
      rw [pkW, pkX]
      exact ⟨fun z => by omega, fun z => by omega⟩
    | succ k =>
      have h1 := (by_n hT (p + m)).1
      have h2 := hy k (Nat.lt_succ_self k)
      have ih := ih k (fun j hj => hb j (by omega)) (fun j hj => hy j (by omega))
      rw [pkW, pkX]
      constructor
      · intro z
        have e1 : pkW T p m = pkX y k := by omega
        have e2 : bN T (p + m) = y k := by omega
        obtain ⟨g1, g2⟩ := ih.mp e1
        subst g1
        refine ⟨rfl, fun j hj => ?_⟩
        rcases Nat.lt_or_ge j m with q | q
        · exact g2 j q
        · obtain rfl : j = m := by omega
          exact e2
      · intro ⟨z1, z2⟩
        have : m = k := by omega
        subst this
        rw [ih.mpr ⟨rfl, fun j hj => z2 j (by omega)⟩, z2 m (by omega)]
def ykw (i j : Nat) : Nat := (x_sb i j).toNatClampNeg
theorem kw3 : ∀ i, i < 4 → pkS i (x_sl' i) = lN (pkX (ykw i) (x_sl' i)) ∧ pkX (ykw i) (x_sl' i) < 1099511627776 ∧ x_sl' i ≤ 5 ∧ (List.range (x_sl' i)).all (fun j => decide (0 < ykw i j ∧ ykw i j < 256 ∧ x_sb i j = nI (ykw i j))) = true := by decide +kernel
theorem wd_eq (hT : isBy T) (h : TK T L a s r) {i : Nat} (hi : i < 4) : wrdP T L s i = decide (r.2.2.2.1 = 2 ∧ r.2.2.2.2.2.1 = pkS i (x_sl' i)) := by
  obtain ⟨k1, k2, k3, k4⟩ := kw3 i hi
  have k4 : ∀ j, j < x_sl' i → 0 < ykw i j ∧ ykw i j < 256 ∧ x_sb i j = nI (ykw i j) := fun j hj => of_decide_eq_true (List.all_eq_true.mp k4 j (List.mem_range.mpr hj))
  obtain ⟨h1, h2, p, h3, h4, h5, h6, h7⟩ := h
  unfold wrdP
  rcases h7 with ⟨c1, c2, c3, c4, c5⟩ | ⟨c1, c2, c3, c4, c5, c6, c7, c8⟩ | ⟨c1, c2, c3, c4, c5, c6⟩ | ⟨c1, c2, c3, c4, c5, c6⟩ | ⟨c1, c2⟩
  · rw [c2, c4, decide_eq_false (show ¬ (0 : Int32) = 1 by decide), Bool.false_and, decide_eq_false (fun z => absurd z.1 (by decide))]
  · have hup := pkW_lt hT p (s.2.2.2.2.1 - p)
    have hpow : 256 ^ (s.2.2.2.2.1 - p) ≤ 256 ^ 5 := Nat.pow_le_pow_right (by decide) c6
    have h5n : (256 : Nat) ^ 5 = 1099511627776 := by decide
    have eq1 : lN (pkW T p (s.2.2.2.2.1 - p)) = lN (pkX (ykw i) (x_sl' i)) ↔ pkW T p (s.2.2.2.2.1 - p) = pkX (ykw i) (x_sl' i) := by
      refine ⟨fun z => ?_, fun z => by rw [z]⟩
      have e1 : (lN (pkW T p (s.2.2.2.2.1 - p))).toInt = _ := lg_ofNat_toInt (by omega)
      have e2 : (lN (pkX (ykw i) (x_sl' i))).toInt = _ := lg_ofNat_toInt (by omega)
      rw [z, e2] at e1
      omega
    have inj := pk_inj (y := ykw i) (p := p) hT (s.2.2.2.2.1 - p) (x_sl' i) (fun j hj => by have := (c8 (p + j) (by omega) (by omega)).1; omega) (fun j hj => ⟨(k4 j hj).1, (k4 j hj).2.1⟩)
    rw [c3, c4, c7, k1, h5, decide_eq_true (rfl : (1 : Int32) = 1), Bool.true_and, Bool.eq_iff_iff, Bool.and_eq_true, decide_eq_true_eq, decide_eq_true_eq, eq1, inj, List.all_eq_true]
    have eb : ∀ j, j < s.2.2.2.2.1 - p → j < x_sl' i → (x_sb i j = byV T L (p + j) ↔ bN T (p + j) = ykw i j) := fun j hj hj2 => by
      rw [(k4 j hj2).2.2, byV_n hT (by omega), nI_eq (by have := (k4 j hj2).2.1; omega) (by have := (by_n hT (p + j)).1; omega)]
      exact ⟨fun z => z.symm, fun z => z.symm⟩
    constructor
    · intro ⟨z1, z2⟩
      exact ⟨rfl, z1, fun j hj => (eb j hj (by omega)).mp (of_decide_eq_true (z2 j (List.mem_range.mpr (by omega))))⟩
    · intro ⟨_, z1, z2⟩
      refine ⟨z1, fun j hj => decide_eq_true ?_⟩
      have hj := List.mem_range.mp hj
      exact (eb j (by omega) hj).mpr (z2 j (by omega))
  · rw [c3, c4, decide_eq_false (show ¬ (2 : Int32) = 1 by decide), Bool.false_and, decide_eq_false (fun z => absurd z.1 (by decide))]
  · rw [c2, c4, decide_eq_false (show ¬ (3 : Int32) = 1 by decide), Bool.false_and, decide_eq_false (fun z => absurd z.1 (by decide))]
  · rw [c1, c2, decide_eq_false (show ¬ (4 : Int32) = 1 by decide), Bool.false_and, decide_eq_false (fun z => absurd z.1 (by decide))]
end read

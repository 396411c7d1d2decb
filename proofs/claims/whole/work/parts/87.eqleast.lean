/-! class and reference agree: FEWEST -/
/-- the least row from a on, laid from place k on -/
def LR (H : Nat → Int64) (np : Nat) : Nat → Nat → Int64 → (Nat → Int32) → Nat → Prop
  | 0, _, o, _, _ => o = 0
  | m + 1, a, o, r, k => ∃ i, a ≤ i ∧ i < np ∧ (¬ H i &&& o = 0 ∧ Cov H np m (o &&& (H i ^^^ -1)) (i + 1)) ∧ (∀ j, a ≤ j → j < i → ¬ (¬ H j &&& o = 0 ∧ Cov H np m (o &&& (H j ^^^ -1)) (j + 1))) ∧ r k = nI i ∧ LR H np m (i + 1) (o &&& (H i ^^^ -1)) r (k + 1)
theorem LR_cg {H H' : Nat → Int64} {np : Nat} (hH : ∀ p, p < np → H p = H' p) : ∀ m a o r k, LR H np m a o r k → LR H' np m a o r k := by
  intro m
  induction m with
  | zero => intro a o r k h; exact h
  | succ m ih =>
    intro a o r k ⟨i, h1, h2, h3, h4, h5, h6⟩
    refine ⟨i, h1, h2, ?_, fun j hj1 hj2 hc => ?_, h5, ?_⟩
    · rw [← hH i h2]; exact ⟨h3.1, cov_cg hH h3.2⟩
    · refine h4 j hj1 hj2 ?_
      rw [hH j (by omega)]
      exact ⟨hc.1, cov_cg (fun p hp => (hH p hp).symm) hc.2⟩
    · rw [← hH i h2]; exact ih _ _ _ _ h6
theorem LR_one {H : Nat → Int64} {np : Nat} (hnp : np < 2 ^ 31) : ∀ m a o r r' k, LR H np m a o r k → LR H np m a o r' k → ∀ j, k ≤ j → j < k + m → r j = r' j := by
  intro m
  induction m with
  | zero => intro a o r r' k _ _ j h1 h2; omega
  | succ m ih =>
    intro a o r r' k ⟨i, h1, h2, h3, h4, h5, h6⟩ ⟨i', g1, g2, g3, g4, g5, g6⟩ j hj1 hj2
    have e : i = i' := by
      rcases Nat.lt_trichotomy i i' with z | z | z
      · exact absurd h3 (g4 i h1 z)
      · exact z
      · exact absurd g3 (h4 i' g1 z)
    subst e
    rcases Nat.eq_or_lt_of_le hj1 with z | z
    · subst z; rw [h5, g5]
    · exact ih _ _ _ _ _ h6 g6 j z (by omega)
theorem LR_rows {H : Nat → Int64} {np : Nat} : ∀ m a o r r' k, (∀ j, k ≤ j → j < k + m → r j = r' j) → LR H np m a o r k → LR H np m a o r' k := by
  intro m
  induction m with
  | zero => intro a o r r' k _ h; exact h
  | succ m ih =>
    intro a o r r' k he ⟨i, h1, h2, h3, h4, h5, h6⟩
    exact ⟨i, h1, h2, h3, h4, by rw [← he k (by omega) (by omega)]; exact h5, ih _ _ _ _ _ (fun j h1 h2 => he j (by omega) (by omega)) h6⟩
/-- no fewer will do -/
def tgt (H : Nat → Int64) (np m a : Nat) (o : Int64) : Prop := ∀ k, k < m → ¬ Cov H np k o a
theorem min_of : ∀ (ps : List Nat), ps ≠ [] → ∃ p, p ∈ ps ∧ ∀ q, q ∈ ps → p ≤ q := by
  intro ps
  induction ps with
  | nil => intro h; exact absurd rfl h
  | cons a r ih =>
    intro _
    cases r with
    | nil => exact ⟨a, List.mem_cons_self, fun q hq => by rw [List.mem_singleton.mp hq]; exact Nat.le_refl _⟩
    | cons b t =>
      obtain ⟨p, hp, hm⟩ := ih (by simp)
      rcases Nat.le_total a p with z | z
      · refine ⟨a, List.mem_cons_self, fun q hq => ?_⟩
        rcases List.mem_cons.mp hq with rfl | hq
        · exact Nat.le_refl _
        · exact Nat.le_trans z (hm q hq)
      · refine ⟨p, List.mem_cons_of_mem _ hp, fun q hq => ?_⟩
        rcases List.mem_cons.mp hq with rfl | hq
        · exact z
        · exact hm q hq
theorem cov_first {H : Nat → Int64} {np m a : Nat} {o : Int64} (ht : tgt H np (m + 1) a o) : Cov H np (m + 1) o a ↔ ∃ i, a ≤ i ∧ i < np ∧ ¬ H i &&& o = 0 ∧ Cov H np m (o &&& (H i ^^^ -1)) (i + 1) := by
  constructor
  · intro ⟨ps, hl, c⟩
    have hne : ps ≠ [] := fun e => by
      subst e
      exact ht 0 (by omega) ⟨[], Nat.le_refl _, c⟩
    obtain ⟨p, hp, hm⟩ := min_of ps hne
    have h1 := cov_rem (a' := p + 1) hl c hp (fun q hq hn => by have := hm q hq; omega)
    refine ⟨p, (c.1 p hp).1, (c.1 p hp).2, fun z => ?_, h1⟩
    refine ht m (Nat.lt_succ_self m) (cov_a (a := a) (a' := p + 1) (by have := (c.1 p hp).1; omega) ?_)
    obtain ⟨qs, ql, q1, q2⟩ := h1
    refine ⟨qs, ql, q1, fun j hj hg => q2 j hj ((gb_rest hj).mpr ⟨hg, fun y => ?_⟩)⟩
    have := gb_eq0.mp z j hj
    rw [gb_and, y, hg] at this
    cases this
  · intro ⟨i, h1, h2, h3, h4⟩
    exact cov_cons h1 h2 (cov_a (by omega) h4)
theorem tgt_next {H : Nat → Int64} {np m a i : Nat} {o : Int64} (ht : tgt H np (m + 1) a o) (h1 : a ≤ i) (h2 : i < np) : tgt H np m (i + 1) (o &&& (H i ^^^ -1)) := fun k hk hc => ht (k + 1) (by omega) (cov_cons h1 h2 (cov_a (by omega) hc))
/-! the reference's choice -/
theorem lsI_ge {H : Nat → Int64} {q : Nat} : ∀ m j, j < m → hasL (H j) (nI q) = true → j ≤ lsI H (nI q) m := by
  intro m
  induction m with
  | zero => intro j hj; exact absurd hj (Nat.not_lt_zero j)
  | succ m ih =>
    intro j hj h
    rw [lsI]
    split
    · omega
    · rename_i z
      rcases Nat.lt_or_ge j m with y | y
      · exact ih j y h
      · obtain rfl : j = m := by omega
        exact absurd h z
theorem lsV_q {H : Nat → Int64} {np : Nat} {left : Int64} : ∀ k, lsV H np left k = np ∨ ∃ q, q < k ∧ hasL left (nI q) = true ∧ lsV H np left k = lsI H (nI q) np := by
  intro k
  induction k with
  | zero => exact Or.inl rfl
  | succ k ih =>
    rw [lsV]
    by_cases z : hasL left (nI k) = true
    · rw [if_pos z]
      split
      · exact Or.inr ⟨k, by omega, z, rfl⟩
      · rcases ih with y | ⟨q, h1, h2, h3⟩
        · exact Or.inl y
        · exact Or.inr ⟨q, by omega, h2, h3⟩
    · rw [if_neg z]
      rcases ih with y | ⟨q, h1, h2, h3⟩
      · exact Or.inl y
      · exact Or.inr ⟨q, by omega, h2, h3⟩
/-- behind the last, none will do -/
theorem ls_no {H : Nat → Int64} {np nr m i : Nat} {o : Int64} (hnr : nr ≤ 64) (h0 : ¬ o = 0) (hi : lsV H np o nr < i) : ¬ Cov H np m o i := by
  intro ⟨ps, hl, c1, c2⟩
  rcases lsV_q (H := H) (np := np) (left := o) nr with z | ⟨q, h1, h2, h3⟩
  · obtain ⟨j, hj, hg⟩ := gb_ne0.mp h0
    obtain ⟨p, hp, -⟩ := c2 j hj hg
    have := c1 p hp
    omega
  · rw [hasL_gb _ (by omega)] at h2
    obtain ⟨p, hp, e⟩ := c2 q (by omega) h2
    have hb := c1 p hp
    have := lsI_ge (H := H) (q := q) np p hb.2 (by rw [hasL_gb _ (by omega)]; exact e)
    omega
/-- o has bits below nr alone, each of which some prime has -/
def inH (H : Nat → Int64) (np nr : Nat) (o : Int64) : Prop := ∀ j, j < 64 → gb o j = true → j < nr ∧ ∃ p, p < np ∧ gb (H p) j = true
theorem inH_rest {H : Nat → Int64} {np nr : Nat} {o h : Int64} (hi : inH H np nr o) : inH H np nr (o &&& (h ^^^ -1)) := fun j hj hg => hi j hj ((gb_rest hj).mp hg).1
def cnR (H : Nat → Int64) (np m : Nat) (o : Int64) (i : Nat) : Prop := ¬ H i &&& o = 0 ∧ Cov H np m (o &&& (H i ^^^ -1)) (i + 1)
theorem cho_ok {H : Nat → Int64} {np nr : Nat} (hnr : nr ≤ 64) : ∀ m k a o row, inH H np nr o → tgt H np m a o → ((cho H np nr m k a o row).1 = true ↔ Cov H np m o a) ∧ ((cho H np nr m k a o row).1 = true → LR H np m a o (cho H np nr m k a o row).2 k) ∧ ∀ j, j < k → (cho H np nr m k a o row).2 j = row j := by
  intro m
  induction m with
  | zero =>
    intro k a o row _ _
    rw [cho, cov_0]
    exact ⟨decide_eq_true_iff, fun h => (decide_eq_true_iff.mp h : o = 0), fun _ _ => rfl⟩
  | succ m ih =>
    intro k a o row hi ht
    have h0 : ¬ o = 0 := fun z => ht 0 (by omega) (cov_0.mpr z)
    have hlt : lsV H np o nr < np := by
      obtain ⟨j, hj, hg⟩ := gb_ne0.mp h0
      obtain ⟨h1, p, hp, -⟩ := hi j hj hg
      exact lsV_lt (by omega) nr j h1 (by rw [hasL_gb _ hj]; exact hg)
    have loop : ∀ c i row, c = lsV H np o nr + 1 - i → a ≤ i → (∀ j, a ≤ j → j < i → ¬ cnR H np m o j) → ((choL H o k (cho H np nr m (k + 1)) c i row).1 = true ↔ ∃ i', i ≤ i' ∧ i' < np ∧ cnR H np m o i') ∧ ((choL H o k (cho H np nr m (k + 1)) c i row).1 = true → LR H np (m + 1) a o (choL H o k (cho H np nr m (k + 1)) c i row).2 k) ∧ ∀ j, j < k → (choL H o k (cho H np nr m (k + 1)) c i row).2 j = row j := by
      intro c
      induction c with
      | zero =>
        intro i row hc ha hno
        rw [choL]
        refine ⟨⟨(fun z => by cases z), fun ⟨i', h1, h2, h3⟩ => ?_⟩, (fun z => by cases z), fun _ _ => rfl⟩
        exact absurd (cov_cons (Nat.le_refl i') h2 (cov_a (by omega) h3.2)) (ls_no (m := m + 1) hnr h0 (by omega))
      | succ c ihc =>
        intro i row hc ha hno
        have hin : i < np := by omega
        rw [choL]
        by_cases hz : H i &&& o = 0
        · rw [if_pos hz]
          have nc : ¬ cnR H np m o i := fun q => q.1 hz
          obtain ⟨r1, r2, r3⟩ := ihc (i + 1) row (by omega) (by omega) (fun j h1 h2 => by
            rcases Nat.lt_or_ge j i with z | z
            · exact hno j h1 z
            · obtain rfl : j = i := by omega
              exact nc)
          refine ⟨r1.trans ⟨fun ⟨i', q1, q2⟩ => ⟨i', by omega, q2⟩, fun ⟨i', q1, q2⟩ => ⟨i', ?_, q2⟩⟩, r2, r3⟩
          rcases Nat.eq_or_lt_of_le q1 with z | z
          · subst z; exact absurd q2.2 nc
          · exact z
        · rw [if_neg hz]
          obtain ⟨s1, s2, s3⟩ := ih (k + 1) (i + 1) (o &&& (H i ^^^ -1)) (up row k (nI i)) (inH_rest hi) (tgt_next ht ha hin)
          by_cases hs : (cho H np nr m (k + 1) (i + 1) (o &&& (H i ^^^ -1)) (up row k (nI i))).1 = true
          · rw [if_pos hs]
            refine ⟨⟨fun _ => ⟨i, Nat.le_refl _, hin, hz, s1.mp hs⟩, fun _ => rfl⟩, fun _ => ?_, fun j hj => ?_⟩
            · exact ⟨i, ha, hin, ⟨hz, s1.mp hs⟩, hno, by rw [s3 k (by omega), up_eq], s2 hs⟩
            · show (cho H np nr m (k + 1) (i + 1) (o &&& (H i ^^^ -1)) (up row k (nI i))).2 j = row j
              rw [s3 j (by omega), up_ne _ _ (by omega)]
          · rw [if_neg hs]
            have nc : ¬ cnR H np m o i := fun q => hs (s1.mpr q.2)
            obtain ⟨r1, r2, r3⟩ := ihc (i + 1) (cho H np nr m (k + 1) (i + 1) (o &&& (H i ^^^ -1)) (up row k (nI i))).2 (by omega) (by omega) (fun j h1 h2 => by
              rcases Nat.lt_or_ge j i with z | z
              · exact hno j h1 z
              · obtain rfl : j = i := by omega
                exact nc)
            refine ⟨r1.trans ⟨fun ⟨i', q1, q2⟩ => ⟨i', by omega, q2⟩, fun ⟨i', q1, q2⟩ => ⟨i', ?_, q2⟩⟩, r2, fun j hj => ?_⟩
            · rcases Nat.eq_or_lt_of_le q1 with z | z
              · subst z; exact absurd q2.2 nc
              · exact z
            · rw [r3 j hj, s3 j (by omega), up_ne _ _ (by omega)]
    rw [cho, if_neg h0]
    obtain ⟨r1, r2, r3⟩ := loop (lsV H np o nr + 1 - a) a row rfl (Nat.le_refl _) (fun j h1 h2 => by omega)
    exact ⟨r1.trans (cov_first ht).symm, r2, r3⟩
/-- the least number that will do, 6 if none of 0 .. 5 -/
def isN (H : Nat → Int64) (np : Nat) (o : Int64) (n : Nat) : Prop := (∀ k, k < n → k ≤ 5 → ¬ Cov H np k o 0) ∧ (n = 6 ∨ (n ≤ 5 ∧ Cov H np n o 0))
theorem cvS_ok {H : Nat → Int64} {np nr : Nat} (hnr : nr ≤ 64) {o : Int64} (hi : inH H np nr o) : ∀ c m row, m + c = 6 → (∀ k, k < m → ¬ Cov H np k o 0) → ∃ n, isN H np o n ∧ (cvS H np nr o c m row).1 = nI n ∧ (n ≤ 5 → LR H np n 0 o (cvS H np nr o c m row).2 0) := by
  intro c
  induction c with
  | zero =>
    intro m row hm hno
    exact ⟨6, ⟨fun k hk _ => hno k (by omega), Or.inl rfl⟩, rfl, fun h => absurd h (by decide)⟩
  | succ c ih =>
    intro m row hm hno
    obtain ⟨s1, s2, s3⟩ := cho_ok (H := H) (np := np) hnr m 0 0 o row hi hno
    rw [cvS]
    by_cases hs : (cho H np nr m 0 0 o row).1 = true
    · rw [if_pos hs]
      exact ⟨m, ⟨fun k hk _ => hno k hk, Or.inr ⟨by omega, s1.mp hs⟩⟩, rfl, fun _ => s2 hs⟩
    · rw [if_neg hs]
      exact ih (m + 1) _ (by omega) (fun k hk => by
        rcases Nat.lt_or_ge k m with z | z
        · exact hno k z
        · obtain rfl : k = m := by omega
          exact fun q => hs (s1.mpr q))
theorem isN_one {H : Nat → Int64} {np : Nat} {o : Int64} {n n' : Nat} (h : isN H np o n) (g : isN H np o n') : n = n' := by
  rcases Nat.lt_trichotomy n n' with z | z | z
  · rcases h.2 with y | ⟨y1, y2⟩
    · rcases g.2 with x | x <;> omega
    · exact absurd y2 (g.1 n z y1)
  · exact z
  · rcases g.2 with y | ⟨y1, y2⟩
    · rcases h.2 with x | x <;> omega
    · exact absurd y2 (h.1 n' z y1)
theorem lrN_ok {H R : Nat → Int64} {np nr : Nat} (hnr : nr ≤ 64) (hR : isBits R nr) {o : Int64} (ho : ∀ j, j < 64 → gb o j = true → j < nr) : isN H np o (lrN (fun c => chV H R np nr c o 0)) := by
  have ck := fun k hk => chV_ok (H := H) (np := np) hnr hR k hk o 0 ho
  unfold lrN
  cases hf : (List.range 6).find? (fun c => chV H R np nr c o 0) with
  | none =>
    rw [List.find?_eq_none] at hf
    exact ⟨fun k _ hk q => hf k (List.mem_range.mpr (by omega)) ((ck k hk).mpr q), Or.inl rfl⟩
  | some n =>
    obtain ⟨h1, h2, h3⟩ := List.find?_range_eq_some.mp hf
    have hn : n < 6 := List.mem_range.mp h2
    refine ⟨fun k hk hk5 q => ?_, Or.inr ⟨by show n ≤ 5; omega, (ck n (by omega)).mp h1⟩⟩
    have := h3 k hk
    rw [(ck k hk5).mpr q] at this
    exact absurd this (by decide)
/-- the class's row is the least -/
theorem lrS_ok {H R : Nat → Int64} {np nr cnt : Nat} (hnr : nr ≤ 64) (hR : isBits R nr) (hc5 : cnt ≤ 5) {o : Int64} (ho : ∀ j, j < 64 → gb o j = true → j < nr) (ht : tgt H np cnt 0 o) (hc : Cov H np cnt o 0) (row : Nat → Int32) : ∀ p, p ≤ np → ∀ i q r, lrS H R np nr cnt p (0, o, row) = (i, q, r) → i ≤ cnt ∧ (∀ j, j < 64 → gb q j = true → j < nr) ∧ Cov H np (cnt - i) q p ∧ tgt H np (cnt - i) p q ∧ ∀ r', (∀ j, j < i → r' j = r j) → LR H np (cnt - i) p q r' i → LR H np cnt 0 o r' 0 := by
  intro p
  induction p with
  | zero =>
    intro _ i q r e
    rw [lrS] at e
    cases e
    exact ⟨Nat.zero_le _, ho, hc, ht, fun r' _ h => h⟩
  | succ p ih =>
    intro hp i q r e
    obtain ⟨s, hs⟩ : ∃ s, s = lrS H R np nr cnt p (0, o, row) := ⟨_, rfl⟩
    obtain ⟨i0, q0, r0⟩ := s
    obtain ⟨a1, a2, a3, a4, a5⟩ := ih (by omega) i0 q0 r0 hs.symm
    rw [lrS, ← hs] at e
    dsimp only at e
    have sub : ∀ j, j < 64 → gb (q0 &&& (H p ^^^ -1)) j = true → j < nr := fun j hj hg => a2 j hj ((gb_rest hj).mp hg).1
    have ck := chV_ok (H := H) (np := np) hnr hR (cnt - i0 - 1) (by omega) (q0 &&& (H p ^^^ -1)) (p + 1) sub
    by_cases h : i0 < cnt ∧ ¬ H p &&& q0 = 0 ∧ chV H R np nr (cnt - i0 - 1) (q0 &&& (H p ^^^ -1)) (p + 1) = true
    · rw [if_pos h] at e
      cases e
      have em : cnt - i0 = (cnt - (i0 + 1)) + 1 := by omega
      have ek : cnt - i0 - 1 = cnt - (i0 + 1) := by omega
      rw [ek] at ck h
      rw [em] at a3 a4 a5
      have hcv := ck.mp h.2.2
      refine ⟨by omega, sub, hcv, tgt_next a4 (Nat.le_refl p) (by omega), fun r' hr hL => a5 r' (fun j hj => by rw [hr j (by omega), up_ne _ _ (by omega)]) ?_⟩
      exact ⟨p, Nat.le_refl _, by omega, ⟨h.2.1, hcv⟩, fun j h1 h2 => by omega, by rw [hr i0 (by omega), up_eq], hL⟩
    · rw [if_neg h] at e
      cases e
      rcases Nat.eq_or_lt_of_le a1 with z | z
      · subst z
        rw [Nat.sub_self] at a3 a4 a5 ⊢
        have q00 := cov_0.mp a3
        exact ⟨Nat.le_refl _, a2, cov_0.mpr q00, fun k hk => absurd hk (Nat.not_lt_zero k), fun r' hr _ => a5 r' hr q00⟩
      · have em : cnt - i = (cnt - (i + 1)) + 1 := by omega
        have ek : cnt - i - 1 = cnt - (i + 1) := by omega
        rw [ek] at ck h
        rw [em] at a3 a4 a5 ⊢
        have nc : ¬ (¬ H p &&& q = 0 ∧ Cov H np (cnt - (i + 1)) (q &&& (H p ^^^ -1)) (p + 1)) := fun y => h ⟨z, y.1, ck.mpr y.2⟩
        have t2 : tgt H np (cnt - (i + 1) + 1) (p + 1) q := fun k hk hc => a4 k hk (cov_a (by omega) hc)
        refine ⟨by omega, a2, ?_, t2, fun r' hr hL => a5 r' hr ?_⟩
        · obtain ⟨i', b1, b2, b3, b4⟩ := (cov_first a4).mp a3
          refine (cov_first t2).mpr ⟨i', ?_, b2, b3, b4⟩
          rcases Nat.eq_or_lt_of_le b1 with y | y
          · subst y; exact absurd ⟨b3, b4⟩ nc
          · exact y
        · obtain ⟨i', b1, b2, b3, b4, b5, b6⟩ := hL
          refine ⟨i', by omega, b2, b3, fun j c1 c2 => ?_, b5, b6⟩
          rcases Nat.eq_or_lt_of_le c1 with y | y
          · subst y; exact nc
          · exact b4 j y c2
theorem lrR_ok {H R : Nat → Int64} {np nr : Nat} (hnr : nr ≤ 64) (hR : isBits R nr) {row : Nat → Int32} (ho : ∀ j, j < 64 → gb (bitL nr - 1) j = true → j < nr) : isN H np (bitL nr - 1) (lrR H R np nr row).1 ∧ ((lrR H R np nr row).1 ≤ 5 → LR H np (lrR H R np nr row).1 0 (bitL nr - 1) (lrR H R np nr row).2 0) := by
  have hN := lrN_ok (H := H) (np := np) hnr hR ho
  obtain ⟨n, hn⟩ : ∃ n, n = lrN (fun c => chV H R np nr c (bitL nr - 1) 0) := ⟨_, rfl⟩
  have e1 : (lrR H R np nr row).1 = n := by rw [hn]; rfl
  have e2 : n ≤ 5 → (lrR H R np nr row).2 = (lrS H R np nr n np (0, bitL nr - 1, row)).2.2 := fun h => by
    unfold lrR
    rw [← hn]
    exact if_pos h
  rw [← hn] at hN
  rw [e1]
  refine ⟨hN, fun h5 => ?_⟩
  rw [e2 h5]
  have hc : Cov H np n (bitL nr - 1) 0 := by
    rcases hN.2 with z | z
    · omega
    · exact z.2
  have ht : tgt H np n 0 (bitL nr - 1) := fun k hk => hN.1 k hk (by omega)
  obtain ⟨a1, a2, a3, a4, a5⟩ := lrS_ok hnr hR h5 ho ht hc row np (Nat.le_refl _) _ _ _ rfl
  have q0 : (lrS H R np nr n np (0, bitL nr - 1, row)).2.1 = 0 := by
    obtain ⟨ps, hl, c1, c2⟩ := a3
    rw [gb_eq0]
    intro j hj
    cases hg : gb (lrS H R np nr n np (0, bitL nr - 1, row)).2.1 j
    · rfl
    · obtain ⟨p, hp, -⟩ := c2 j hj hg
      have := c1 p hp
      omega
  have hz : n - (lrS H R np nr n np (0, bitL nr - 1, row)).1 = 0 := Classical.byContradiction fun z => a4 0 (by omega) (cov_0.mpr q0)
  refine a5 _ (fun _ _ => rfl) ?_
  rw [hz]
  exact q0

/-! class and reference agree: what is needed, what is lacking, FEWEST, FORMULA -/
theorem owy_one {f : Nat → Bool} : ∀ {n p : Nat}, p < n → f p = true → (owy f n = 1 ↔ ∀ q, q < n → f q = true → q = p) := by
  intro n
  induction n with
  | zero => intro p hp; exact absurd hp (Nat.not_lt_zero p)
  | succ n ih =>
    intro p hp hf
    rw [owy]
    rcases Nat.lt_or_ge p n with z | z
    · by_cases y : f n = true
      · rw [if_pos y]
        have hpos : 0 < owy f n := by
          rcases Nat.eq_zero_or_pos (owy f n) with x | x
          · have := (owy_0 n).mp x
            rw [List.find?_eq_none] at this
            exact absurd hf (this p (List.mem_range.mpr z))
          · exact x
        refine ⟨fun h => by omega, fun h => ?_⟩
        have := h n (Nat.lt_succ_self n) y
        omega
      · rw [if_neg y, Nat.add_zero, ih z hf]
        refine ⟨fun h q hq hq2 => ?_, fun h q hq hq2 => h q (by omega) hq2⟩
        rcases Nat.lt_or_ge q n with x | x
        · exact h q x hq2
        · obtain rfl : q = n := by omega
          exact absurd hq2 y
    · obtain rfl : p = n := by omega
      rw [if_pos hf]
      constructor
      · intro h q hq hq2
        have h0 : owy f p = 0 := by omega
        have := (owy_0 p).mp h0
        rw [List.find?_eq_none] at this
        rcases Nat.lt_or_ge q p with x | x
        · exact absurd hq2 (this q (List.mem_range.mpr x))
        · omega
      · intro h
        have h0 : owy f p = 0 := (owy_0 p).mpr (by
          rw [List.find?_eq_none]
          intro q hq hq2
          have hq := List.mem_range.mp hq
          have := h q (by omega) hq2
          omega)
        omega
theorem cnt_owy {H : Nat → Int64} {j : Nat} (hj : j < 64) : ∀ n, cntH H (bitL j) n = owy (fun p => gb (H p) j) n := by
  intro n
  induction n with
  | zero => rfl
  | succ n ih =>
    rw [cntH, owy, ih]
    congr 1
    by_cases z : gb (H n) j = true
    · rw [if_pos z, if_neg (fun y => by rw [bit_and hj, z] at y; cases y)]
    · rw [if_neg z, if_pos ((bit_and hj).mpr (Bool.eq_false_iff.mpr z))]
theorem gb_alone {H : Nat → Int64} {np : Nat} : ∀ K, K ≤ 64 → ∀ j, j < 64 → gb (aloneL H np K) j = (decide (j < K) && decide (cntH H (bitL j) np = 1)) := by
  intro K
  induction K with
  | zero => intro _ j _; rw [aloneL, gb_0, decide_eq_false (Nat.not_lt_zero j)]; rfl
  | succ K ih =>
    intro hK j hj
    have ihj := ih (by omega) j hj
    rw [aloneL]
    by_cases h : cntH H (bitL K) np = 1
    · rw [if_pos h, gb_or, ihj, gb_bitL K (by omega) j hj]
      by_cases e : K = j
      · subst e
        rw [decide_eq_true h, decide_eq_true (show K < K + 1 by omega), decide_eq_true (rfl : K = K), Bool.or_true]
        rfl
      · rw [decide_eq_false e, Bool.or_false]
        have e2 : decide (j < K) = decide (j < K + 1) := by
          rw [Bool.eq_iff_iff, decide_eq_true_eq, decide_eq_true_eq]; omega
        rw [e2]
    · rw [if_neg h, ihj]
      by_cases e : K = j
      · subst e
        rw [decide_eq_false h, Bool.and_false, Bool.and_false]
      · have e2 : decide (j < K) = decide (j < K + 1) := by
          rw [Bool.eq_iff_iff, decide_eq_true_eq, decide_eq_true_eq]; omega
        rw [e2]
theorem cbO_p {H : Nat → Int64} {p j : Nat} (hp : p < 2 ^ 31) : ∀ n, n < 2 ^ 31 → (gb (cbO H (nI p) n) j = true ↔ ∃ i, i < n ∧ i ≠ p ∧ gb (H i) j = true) := by
  intro n
  induction n with
  | zero =>
    intro _
    rw [cbO, gb_0]
    exact ⟨(fun z => by cases z), fun ⟨i, hi, _⟩ => absurd hi (Nat.not_lt_zero i)⟩
  | succ n ih =>
    intro hn
    have ih := ih (by omega)
    rw [cbO]
    by_cases e : n = p
    · rw [if_pos (by rw [e]), ih]
      refine ⟨fun ⟨i, h1, h2⟩ => ⟨i, by omega, h2⟩, fun ⟨i, h1, h2, h3⟩ => ⟨i, by omega, h2, h3⟩⟩
    · rw [if_neg (fun z => e ((nI_eq (by omega) hp).mp z)), gb_or, Bool.or_eq_true, ih]
      constructor
      · intro h
        rcases h with ⟨i, h1, h2⟩ | h
        · exact ⟨i, by omega, h2⟩
        · exact ⟨n, by omega, e, h⟩
      · intro ⟨i, h1, h2, h3⟩
        rcases Nat.lt_or_ge i n with z | z
        · exact Or.inl ⟨i, z, h2, h3⟩
        · obtain rfl : i = n := by omega
          exact Or.inr h3
theorem needed_eq {H : Nat → Int64} {np K : Nat} (hnp : np < 2 ^ 31) (hK : K ≤ 64) (hb : ∀ p, p < np → ∀ j, j < 64 → gb (H p) j = true → j < K) : ∀ k, k ≤ np → cntH H (aloneL H np K) k = ndN H np k := by
  intro k
  induction k with
  | zero => intro _; rfl
  | succ k ih =>
    intro hk
    rw [cntH, ndN, ih (by omega)]
    congr 1
    have e : (H k &&& aloneL H np K = 0) ↔ (H k &&& (cbO H (nI k) np ^^^ -1) = 0) := by
      rw [gb_eq0, gb_eq0]
      have key : ∀ j, j < 64 → gb (H k &&& aloneL H np K) j = gb (H k &&& (cbO H (nI k) np ^^^ -1)) j := fun j hj => by
        rw [gb_and, gb_and, gb_not _ hj, gb_alone K hK j hj, cnt_owy hj]
        cases hg : gb (H k) j
        · rfl
        · rw [Bool.true_and, Bool.true_and, decide_eq_true (hb k (by omega) j hj hg), Bool.true_and, Bool.eq_iff_iff, decide_eq_true_eq, owy_one (show k < np by omega) hg, Bool.not_eq_true', ← Bool.not_eq_true, cbO_p (by omega) np hnp]
          constructor
          · intro h ⟨i, h1, h2, h3⟩; exact h2 (h i h1 h3)
          · intro h q hq hq2; exact Classical.byContradiction fun z => h ⟨q, hq, z, hq2⟩
      constructor
      · intro h j hj; rw [← key j hj]; exact h j hj
      · intro h j hj; rw [key j hj]; exact h j hj
    by_cases z : H k &&& aloneL H np K = 0
    · rw [if_pos z, if_pos (e.mp z)]
    · rw [if_neg z, if_neg (fun y => z (e.mpr y))]
theorem cbO_cg {H H' : Nat → Int64} {x : Int32} : ∀ n, (∀ p, p < n → H p = H' p) → cbO H x n = cbO H' x n := by
  intro n
  induction n with
  | zero => intro _; rfl
  | succ n ih => intro h; rw [cbO, cbO, ih (fun p hp => h p (by omega)), h n (by omega)]
theorem ndN_cg {H H' : Nat → Int64} {np : Nat} (h : ∀ p, p < np → H p = H' p) : ∀ k, k ≤ np → ndN H np k = ndN H' np k := by
  intro k
  induction k with
  | zero => intro _; rfl
  | succ k ih => intro hk; rw [ndN, ndN, ih (by omega), h k (by omega), cbO_cg np h]
theorem lack_eq {H : Nat → Int64} {np K : Nat} (hnp : np < 2 ^ 31) (hK : K ≤ 64) : lackO H np K = lcO (cbO H (-1) np) K := by
  unfold lackO lcO
  refine find_cg K (fun i hi => ?_)
  rw [cnt_owy (by omega), hasL_gb _ (by omega), Bool.eq_iff_iff, decide_eq_true_eq, Bool.not_eq_true', ← Bool.not_eq_true, cbO_gb H (by omega) np hnp, owy_0, List.find?_eq_none]
  constructor
  · intro h ⟨p, h1, h2⟩; exact h p (List.mem_range.mpr h1) h2
  · intro h p hp hp2; exact h ⟨p, List.mem_range.mp hp, hp2⟩
theorem heldL_cg {p : Int64} {T T' : Nat → Int64} : ∀ K, (∀ k, k < K → T k = T' k) → heldL p T K = heldL p T' K := by
  intro K
  induction K with
  | zero => intro _; rfl
  | succ K ih => intro h; rw [heldL, heldL, ih (fun k hk => h k (by omega)), h K (by omega)]
/-- FEWEST: number and row -/
theorem fewest_eq {Hr H R : Nat → Int64} {np K : Nat} {row0 row : Nat → Int32} {c : Int32} (hnp : np < 2 ^ 31) (hK : K < 34) (hH : ∀ p, p < np → Hr p = H p) (hR : isBits R K) (hl : lcO (cbO H (-1) np) K = none) (hc : cqR H np K c row) : c = nI (lrR Hr R np K row0).1 ∧ ∀ m, m ≤ 5 → c = nI m → ∀ k, k < m → (lrR Hr R np K row0).2 k = row k := by
  have hf := gb_full K hK
  have ho : ∀ j, j < 64 → gb (bitL K - 1) j = true → j < K := fun j hj hg => by rw [hf j hj] at hg; exact of_decide_eq_true hg
  unfold cqR at hc
  rw [if_pos hl] at hc
  obtain ⟨H2, r0, g1, g2, g3⟩ := hc
  have e12 : ∀ p, p < np → H2 p = Hr p := fun p hp => (g1 p hp).trans (hH p hp).symm
  obtain ⟨n1, n2⟩ := lrR_ok (H := Hr) (np := np) (row := row0) (show K ≤ 64 by omega) hR ho
  have hin : inH H2 np K (bitL K - 1) := fun j hj hg => by
    have hjK := ho j hj hg
    have := lcO_none hl j hjK
    rw [hasL_gb _ hj, cbO_gb H hj np hnp] at this
    obtain ⟨p, hp, e⟩ := this
    exact ⟨hjK, p, hp, by rw [g1 p hp]; exact e⟩
  obtain ⟨n, m1, m2, m3⟩ := cvS_ok (H := H2) (np := np) (nr := K) (by omega) hin 6 0 r0 rfl (fun k hk => absurd hk (Nat.not_lt_zero k))
  have hn : n = (lrR Hr R np K row0).1 := by
    refine isN_one (H := Hr) (np := np) (o := bitL K - 1) ?_ n1
    refine ⟨fun k hk h5 q => m1.1 k hk h5 (cov_cg (fun p hp => (e12 p hp).symm) q), ?_⟩
    rcases m1.2 with z | z
    · exact Or.inl z
    · exact Or.inr ⟨z.1, cov_cg e12 z.2⟩
  have hn6 : n ≤ 6 := by rcases m1.2 with z | z <;> omega
  refine ⟨by rw [g2, m2, hn], fun m hm hcm k hk => ?_⟩
  have em : m = n := (nI_eq (by omega) (by omega)).mp (hcm.symm.trans (g2.trans m2))
  subst em
  rw [g3 m hm hcm k hk]
  exact LR_one hnp m 0 (bitL K - 1) _ _ 0 (by rw [hn] at hm ⊢; exact n2 hm) (LR_cg e12 _ _ _ _ _ (m3 hm)) k (Nat.zero_le _) (by omega)
/-- a sheet of the class against what the reference finds -/
theorem sheet_eq {MI : Mi} {ML : Nat → Nat → Int64} {A S b f : Nat} (h : lnk MI A S b) (hf5 : f < 5) (t1 : tabOK (ML 58)) (t2 : tabOK (ML 125)) (hz : ML 49 f = ML 138 f) (hs : ShOK MI ML A f) : MI (89 + 7 * f) 14 = nI (ndN (hhR MI ML A b f) (plR MI ML A f).length (plR MI ML A f).length) ∧ MI (89 + 7 * f) 15 = opt2 (lcO (cbO (hhR MI ML A b f) (-1) (plR MI ML A f).length) (rqL MI (nI f) A b).length) ∧ ∀ c row, cqF MI ML A b f c row → MI (89 + 7 * f) 13 = c ∧ ∀ m, m ≤ 5 → c = nI m → ∀ k, k < m → MI (89 + 7 * f + 5) k = row k := by
  obtain ⟨s1, s2, s3, s4, s5, s6, Hr, g, row, f1, f2, f3, f4, f5, f6, f7⟩ := hs
  have ePL := primes_eq h hf5 t1 t2 hz
  have eRL := req_eq h hf5
  rw [ePL, eRL, List.length_map] at f1 f3 f4 f5 f6
  rw [eRL] at f2
  obtain ⟨pl, hpl⟩ : ∃ pl, pl = plR MI ML A f := ⟨_, rfl⟩
  obtain ⟨rl, hrl⟩ : ∃ rl, rl = rqL MI (nI f) A b := ⟨_, rfl⟩
  have hll := plR_len MI ML A f
  have hrr := rqL_len MI (nI f) b h.1
  have hHr : ∀ p, p < pl.length → Hr p = hhR MI ML A b f p := fun p hp => by
    have hp2 : p < (plR MI ML A f).length := hpl ▸ hp
    have hlt : (plR MI ML A f).getD p 0 < 729 := prQ_lt hp2
    have e1 : ((plR MI ML A f).map nI).getD p 0 = nI ((plR MI ML A f).getD p 0) := by
      rw [gDe 0 hp2, gDe 0 (by rw [List.length_map]; exact hp2), List.getElem_map]
    rw [f1 p hp2, e1, ptsV_nI hlt, tab_eq t1 t2 hlt]
    unfold hhR hH
    refine heldL_cg _ (fun k hk => ?_)
    obtain ⟨d1, d2⟩ := ndx_in (rqL_in MI (nI f) A b) hk
    rw [d2, ptsV_nI d1, tab_eq t1 t2 d1]
  rw [← hpl] at f3 f4 f5 f6 hll ⊢
  rw [← hrl] at f2 f3 f4 f5 f6 hrr ⊢
  have hb : ∀ p, p < pl.length → ∀ j, j < 64 → gb (Hr p) j = true → j < rl.length := fun p hp j hj hg => by
    rw [hHr p hp] at hg
    unfold hhR hH at hg
    rw [gb_heldL _ _ _ (by rw [← hrl]; omega) j hj, Bool.and_eq_true] at hg
    have := of_decide_eq_true hg.1
    rw [← hrl] at this
    exact this
  have eL : lackO Hr pl.length rl.length = lcO (cbO (hhR MI ML A b f) (-1) pl.length) rl.length := by
    rw [lack_eq (by omega) (by omega), cbO_cg pl.length hHr]
  refine ⟨?_, ?_, fun c row2 hc => ?_⟩
  · rw [f3, needed_eq (by omega) (by omega) hb pl.length (Nat.le_refl _), ndN_cg hHr pl.length (Nat.le_refl _)]
  · rw [f4, eL]
  · have hc : cqR (hhR MI ML A b f) pl.length rl.length c row2 := by rw [hpl, hrl]; exact hc
    by_cases hl : lcO (cbO (hhR MI ML A b f) (-1) pl.length) rl.length = none
    · obtain ⟨a1, a2⟩ := f5 (eL.trans hl)
      obtain ⟨c1, c2⟩ := fewest_eq (Hr := Hr) (R := g) (row0 := row) (by omega) (by omega) hHr f2 hl hc
      exact ⟨a1.trans c1.symm, fun m hm hcm k hk => by rw [a2]; exact c2 m hm hcm k hk⟩
    · have hc2 : c = -2 := by
        unfold cqR at hc
        rw [if_neg hl] at hc
        exact hc
      refine ⟨(f6 (fun z => hl (eL.symm.trans z))).trans hc2.symm, fun m hm hcm => ?_⟩
      rw [hc2] at hcm
      have : nI m < 0 := by rw [← hcm]; decide
      exact absurd this (nI_pos (by omega))
/-! FORMULA -/
theorem ks1 : ∀ c, c < 729 → ∀ k, k < 6 → digV (nI c) k = nI (dgt c k) := by decide +kernel
theorem ks2 : ∀ k, k < 6 → x_sb 7 k = sgI k := by decide +kernel
def wcB (c : Nat) : Nat → List Int32
  | 0 => []
  | k + 1 => wcB c k ++ wcP c k
theorem spL_eq {c : Nat} (hc : c < 729) (s : List Int32 × Nat) : ∀ k, k ≤ 6 → spL (nI c) s k = (s.1 ++ wcB c k, s.2 + fxN c k) := by
  intro k
  induction k with
  | zero => intro _; rw [spL, wcB, fxN, List.append_nil, Nat.add_zero]
  | succ k ih =>
    intro hk
    have hd := dgt_lt c k
    rw [spL, ih (by omega), ks1 c hc k (by omega), ks2 k (by omega), wcB, fxN]
    unfold wcP
    by_cases z2 : dgt c k = 2
    · rw [if_pos (by rw [z2]; rfl), if_pos z2, if_neg (by omega), List.append_nil, Nat.add_zero]
    · have n2 : ¬ nI (dgt c k) = 2 := fun y => z2 ((nI_eq (b := 2) (by omega) (by decide)).mp y)
      have l2 : dgt c k < 2 := by omega
      rw [if_neg n2, if_neg z2, if_pos l2]
      by_cases z0 : dgt c k = 0
      · have y0 : nI (dgt c k) = 0 := by rw [z0]; rfl
        rw [if_pos y0, if_pos z0]
        simp [List.append_assoc, Nat.add_assoc]
      · have n0 : ¬ nI (dgt c k) = 0 := fun y => z0 ((nI_eq (b := 0) (by omega) (by decide)).mp y)
        rw [if_neg n0, if_neg z0]
        simp [List.append_assoc, Nat.add_assoc]
theorem wcB_nil {c : Nat} : ∀ k, fxN c k = 0 → wcB c k = [] := by
  intro k
  induction k with
  | zero => intro _; rfl
  | succ k ih =>
    intro h
    have hd := dgt_lt c k
    rw [fxN] at h
    have h1 : fxN c k = 0 := by omega
    have h2 : ¬ dgt c k < 2 := fun z => by rw [if_pos z] at h; omega
    rw [wcB, ih h1]
    unfold wcP
    rw [if_pos (by omega)]
    rfl
theorem wcL_eq (c : Nat) : ∀ k, wcL c k = (if fxN c 6 = 0 then [49] else []) ++ wcB c k := by
  intro k
  induction k with
  | zero => rw [wcL, wcB, List.append_nil]
  | succ k ih => rw [wcL, wcB, ih, List.append_assoc]
theorem spQ_eq {c : Nat} (hc : c < 729) (s : List Int32 × Nat) : spQ (nI c) s = (s.1 ++ wcL c 6, s.2 + fxN c 6) := by
  unfold spQ
  rw [spL_eq hc s 6 (Nat.le_refl _), wcL_eq]
  dsimp only
  by_cases z : fxN c 6 = 0
  · rw [if_pos (by omega), if_pos z, wcB_nil 6 z, List.append_nil, List.append_nil]
  · rw [if_neg (by omega), if_neg z, List.nil_append]
theorem spA_eq {c : Nat → Int32} {cc : Nat → Nat} {q : Nat} (hq : 0 < q) (h : ∀ k, k < q → cc k < 729 ∧ c k = nI (cc k)) : ∀ k, k ≤ q → spA c k = (waL cc q k, ltN cc k) := by
  intro k
  induction k with
  | zero => intro _; rw [spA, waL, if_neg (by omega)]; rfl
  | succ k ih =>
    intro hk
    obtain ⟨h1, h2⟩ := h k (by omega)
    rw [spA, ih (by omega), h2, spQ_eq h1, waL, ltN]
    by_cases z : k = 0
    · rw [if_pos z, if_neg (by omega), List.append_nil]
    · rw [if_neg z, if_pos (by omega)]
theorem fm_eq {c : Nat → Int32} {cc : Nat → Nat} {q : Nat} (h : ∀ k, k < q → cc k < 729 ∧ c k = nI (cc k)) : fmL c q = waL cc q q ∧ (spA c q).2 = ltN cc q := by
  unfold fmL
  rcases Nat.eq_zero_or_pos q with z | z
  · subst z
    exact ⟨rfl, rfl⟩
  · rw [if_neg (by omega), spA_eq z h q (Nat.le_refl _)]
    exact ⟨rfl, rfl⟩

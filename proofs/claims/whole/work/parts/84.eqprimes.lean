/-! class and reference agree: SAFE, PRIMES -/
theorem fb_holes : ∀ (m n : Nat) (f : Nat → Nat), (∀ i, i < n → f i < m) → (∀ i j, i < j → j < n → f i ≠ f j) → n ≤ m := by
  intro m
  induction m with
  | zero =>
    intro n f h1 _
    rcases Nat.eq_zero_or_pos n with h | h
    · omega
    · exact absurd (h1 0 h) (Nat.not_lt_zero _)
  | succ m ih =>
    intro n f h1 h2
    by_cases hx : ∃ i, i < n ∧ f i = m
    · obtain ⟨a, ha, hfa⟩ := hx
      have hg := ih (n - 1) (fun i => if i < a then f i else f (i + 1)) (by
        intro i hi
        by_cases q : i < a
        · simp only [if_pos q]
          have b1 := h1 i (by omega)
          have b2 := h2 i a q ha
          omega
        · simp only [if_neg q]
          have b1 := h1 (i + 1) (by omega)
          have b2 := h2 a (i + 1) (by omega) (by omega)
          omega) (by
        intro i j hij hj
        by_cases q : i < a
        · by_cases r : j < a
          · simp only [if_pos q, if_pos r]
            exact h2 i j hij (by omega)
          · simp only [if_pos q, if_neg r]
            exact h2 i (j + 1) (by omega) (by omega)
        · have r : ¬ j < a := by omega
          simp only [if_neg q, if_neg r]
          exact h2 (i + 1) (j + 1) (by omega) (by omega))
      omega
    · have hg := ih n f (fun i hi => by
        have b1 := h1 i hi
        have b2 : f i ≠ m := fun e => hx ⟨i, hi, e⟩
        omega) h2
      omega
theorem and_pt {p : Int64} {k : Nat} (hk : k < 64) : p &&& ptL (nI k) = 0 ↔ gb p k = false := by
  rw [gb_eq0]
  have hb := gb_bitL k hk
  constructor
  · intro h
    have := h k hk
    rw [gb_and, show gb (ptL (nI k)) k = true from (hb k hk).trans (decide_eq_true rfl), Bool.and_true] at this
    exact this
  · intro h j hj
    rw [gb_and, show gb (ptL (nI k)) j = decide (k = j) from hb j hj]
    by_cases e : k = j
    · rw [← e, h]; rfl
    · rw [decide_eq_false e, Bool.and_false]
theorem bc_lt (MI : Mi) (i : Nat) : ∃ m, m < 729 ∧ bcR MI i = nI m := numC_in _ _
theorem tc_lt (MI : Mi) (i : Nat) : ∃ m, m < 729 ∧ tcR MI i = nI m := numC_in _ _
theorem safe_eq {MI : Mi} {ML : Nat → Nat → Int64} {A S b f : Nat} (h : lnk MI A S b) (hf5 : f < 5) (t1 : tabOK (ML 58)) (t2 : tabOK (ML 125)) (hz : ML 49 f = ML 138 f) {c : Nat} (hc : c < 729) : safeV (ptsV ML (nI c)) (ML 49 f) (zR MI ML A f).2.1 (zR MI ML A f).2.2 (zR MI ML A f).1 = sfP MI ML f c A := by
  have ht : ∀ c, c < 729 → ML 58 c = ML 125 c := fun c hc => tab_eq t1 t2 hc
  unfold safeV sfP
  rw [ptsV_nI hc, ht c hc, hz]
  congr 1
  unfold zR
  rw [fallR_all (H := fun fb fp => decide (ML 125 c &&& fb = 0) || decide (¬ ML 125 c &&& fp = 0))]
  refine all_cg A (fun i hi => ?_)
  rw [fall_eq h hf5 hi]
  congr 1
  obtain ⟨d1, d2, d3, d4, d5⟩ := lnk_dsc h hi
  obtain ⟨f', g, a, bb, cc, d, o, p, hf, hg, ha, hb, hcc, hd, ho, hp, e1, e2, e3, e4, e5, e6, e7, e8, e9, e10, e11, e12, e13, e14, e15, e16⟩ := lnk_arc h hi
  obtain ⟨m, hm, em⟩ := bc_lt MI i
  unfold ctR
  rw [d1, d3, em, ptsV_nI hm, ht m hm, nI_clamp (by omega), e3, e8, hasL_gb _ (show a + 16 * cc < 64 by omega)]
  have hpt := and_pt (p := ML 125 c) (show a + 16 * cc < 64 by omega)
  rw [Bool.eq_iff_iff, Bool.or_eq_true, decide_eq_true_eq, decide_eq_true_eq, hpt, Bool.not_eq_true', Bool.and_eq_false_iff, decide_eq_false_iff_not, Bool.not_eq_false', Classical.not_not]
  simp
/-! PRIMES from the greatest CUBE on -/
def isP (sf : Nat → Bool) (T : Nat → Int64) (c : Nat) : Bool := sf c && !wiR sf T c
theorem wiR_iff {sf : Nat → Bool} {T : Nat → Int64} (hT : tabOK T) {c : Nat} (hc : c < 729) : wiR sf T c = true ↔ ∃ o, o < 729 ∧ ¬ o = c ∧ sf o = true ∧ subD c o := by
  unfold wiR
  rw [List.any_eq_true]
  constructor
  · intro ⟨o, ho, q⟩
    have ho := List.mem_range.mp ho
    rw [Bool.and_eq_true, Bool.and_eq_true, decide_eq_true_eq, decide_eq_true_eq] at q
    exact ⟨o, ho, q.1, q.2.1, (lies_iff hT hc ho).mp q.2.2⟩
  · intro ⟨o, ho, q1, q2, q3⟩
    refine ⟨o, List.mem_range.mpr ho, ?_⟩
    rw [Bool.and_eq_true, Bool.and_eq_true, decide_eq_true_eq, decide_eq_true_eq]
    exact ⟨q1, q2, (lies_iff hT hc ho).mpr q3⟩
theorem isP_iff {sf : Nat → Bool} {T : Nat → Int64} (hT : tabOK T) {c : Nat} (hc : c < 729) : isP sf T c = true ↔ sf c = true ∧ ∀ o, o < 729 → sf o = true → subD c o → o = c := by
  unfold isP
  rw [Bool.and_eq_true]
  constructor
  · intro ⟨h1, h2⟩
    refine ⟨h1, fun o ho hs hd => Classical.byContradiction fun hne => ?_⟩
    rw [(wiR_iff hT hc).mpr ⟨o, ho, hne, hs, hd⟩] at h2
    exact absurd h2 (by decide)
  · intro ⟨h1, h2⟩
    refine ⟨h1, ?_⟩
    cases hw : wiR sf T c
    · rfl
    · obtain ⟨o, ho, hne, hs, hd⟩ := (wiR_iff hT hc).mp hw
      exact absurd (h2 o ho hs hd) hne
/-- each SAFE CUBE lies within a PRIME -/
theorem isP_above {sf : Nat → Bool} {T : Nat → Int64} (hT : tabOK T) : ∀ n c, c < 729 → 729 - c = n → sf c = true → ∃ p, p < 729 ∧ isP sf T p = true ∧ subD c p := by
  intro n
  induction n using Nat.strongRecOn with
  | _ n ih =>
    intro c hc hn hs
    by_cases hp : isP sf T c = true
    · exact ⟨c, hc, hp, subD_rf c⟩
    · have hw : wiR sf T c = true := by
        cases hw : wiR sf T c
        · exact absurd (by unfold isP; rw [hs, hw]; rfl) hp
        · rfl
      obtain ⟨o, ho, hne, hos, hd⟩ := (wiR_iff hT hc).mp hw
      have hle := subD_le hc ho hd
      obtain ⟨p, h1, h2, h3⟩ := ih (729 - o) (by omega) o ho rfl hos
      exact ⟨p, h1, h2, subD_tr hd h3⟩
/-- PRIMES lie in chains of their own -/
theorem isP_ch {sf : Nat → Bool} {T : Nat → Int64} (hT : tabOK T) {c o : Nat} (hc : c < 729) (ho : o < 729) (h1 : isP sf T c = true) (h2 : isP sf T o = true) (hne : c ≠ o) : chT.getD c 0 ≠ chT.getD o 0 := fun e => by
  obtain ⟨a1, a2⟩ := (isP_iff hT hc).mp h1
  obtain ⟨b1, b2⟩ := (isP_iff hT ho).mp h2
  rcases ch_cmp hc ho e with z | z
  · exact hne (a2 o ho b1 z).symm
  · exact hne (b2 c hc a1 z)
theorem any_getD {α : Type} (L : List α) (d : α) (h : α → Bool) : (List.range L.length).any (fun i => h (L.getD i d)) = L.any h := by
  rw [Bool.eq_iff_iff, List.any_eq_true, List.any_eq_true]
  constructor
  · intro ⟨i, hi, q⟩
    have hi := List.mem_range.mp hi
    rw [gDe d hi] at q
    exact ⟨_, List.getElem_mem hi, q⟩
  · intro ⟨x, hx, q⟩
    obtain ⟨i, hi, e⟩ := List.getElem_of_mem hx
    exact ⟨i, List.mem_range.mpr hi, by rw [gDe d hi, e]; exact q⟩
def pK (sf : Nat → Bool) (T : Nat → Int64) (m : Nat) : List Nat := (List.range m).filter (fun k => isP sf T (728 - k))
theorem pK_s (sf : Nat → Bool) (T : Nat → Int64) (m : Nat) : pK sf T (m + 1) = if isP sf T (728 - m) = true then pK sf T m ++ [m] else pK sf T m := by
  unfold pK
  rw [List.range_succ, List.filter_append]
  by_cases h : isP sf T (728 - m) = true
  · rw [if_pos h]; simp [h]
  · rw [if_neg h]; simp [h]
theorem pK_mem {sf : Nat → Bool} {T : Nat → Int64} {m k : Nat} : k ∈ pK sf T m ↔ k < m ∧ isP sf T (728 - k) = true := by
  unfold pK
  rw [List.mem_filter, List.mem_range]
/-- no more than 240 -/
theorem pK_len {sf : Nat → Bool} {T : Nat → Int64} (hT : tabOK T) {m : Nat} (hm : m < 729) (hp : isP sf T (728 - m) = true) : (pK sf T m).length < 240 := by
  have hpw : (pK sf T m).Pairwise (· < ·) := List.Pairwise.filter _ List.pairwise_lt_range
  obtain ⟨K, hK⟩ : ∃ K, K = fun i => if i < (pK sf T m).length then (pK sf T m).getD i 0 else m := ⟨_, rfl⟩
  have k1 : ∀ i, i < (pK sf T m).length + 1 → K i ≤ m ∧ isP sf T (728 - K i) = true := fun i hi => by
    rw [hK]
    dsimp only
    by_cases z : i < (pK sf T m).length
    · rw [if_pos z, gDe 0 z]
      have := pK_mem.mp (List.getElem_mem z)
      exact ⟨by omega, this.2⟩
    · rw [if_neg z]; exact ⟨Nat.le_refl _, hp⟩
  have k2 : ∀ i j, i < j → j < (pK sf T m).length + 1 → K i < K j := fun i j hij hj => by
    rw [hK]
    dsimp only
    have zi : i < (pK sf T m).length := by omega
    rw [if_pos zi, gDe 0 zi]
    by_cases z : j < (pK sf T m).length
    · rw [if_pos z, gDe 0 z]
      exact List.pairwise_iff_getElem.mp hpw i j zi z hij
    · rw [if_neg z]
      exact (pK_mem.mp (List.getElem_mem zi)).1
  have := fb_holes 240 ((pK sf T m).length + 1) (fun i => chT.getD (728 - K i) 0) (fun i hi => ch3 _ (by omega)) (fun i j hij hj => by
    have := k2 i j hij hj
    have b1 := k1 i (by omega)
    have b2 := k1 j hj
    exact isP_ch hT (by omega) (by omega) b1.2 b2.2 (by omega))
  omega
theorem gp_eq {ML : Nat → Nat → Int64} {z : Int64} {FB FP : Nat → Int64} {K : Nat} {sf : Nat → Bool} {T : Nat → Int64} (hT : tabOK T) (hTe : ∀ c, c < 729 → ptsV ML (nI c) = T c) (hsf : ∀ c, c < 729 → safeV (ptsV ML (nI c)) z FB FP K = sf c) : ∀ m, m ≤ 729 → gpS ML z FB FP K m = (pK sf T m).map (fun k => nI (728 - k)) := by
  intro m
  induction m with
  | zero => intro _; rfl
  | succ m ih =>
    intro hm
    have ihm := ih (by omega)
    have hc : 728 - m < 729 := by omega
    have ec : cubI m = nI (728 - m) := by unfold cubI; rw [if_pos (by omega)]
    have hw : withinV (T (728 - m)) (fun i => ptsV ML ((gpS ML z FB FP K m).getD i 0)) (gpS ML z FB FP K m).length = true ↔ ∃ k, k < m ∧ isP sf T (728 - k) = true ∧ subD (728 - m) (728 - k) := by
      unfold withinV
      rw [any_getD (gpS ML z FB FP K m) 0 (fun x => decide (T (728 - m) &&& (ptsV ML x ^^^ -1) = 0)), ihm, List.any_map, List.any_eq_true]
      constructor
      · intro ⟨k, hk, q⟩
        obtain ⟨k1, k2⟩ := pK_mem.mp hk
        have q : T (728 - m) &&& (ptsV ML (nI (728 - k)) ^^^ -1) = 0 := of_decide_eq_true q
        rw [hTe _ (by omega)] at q
        exact ⟨k, k1, k2, (lies_iff hT hc (by omega)).mp q⟩
      · intro ⟨k, k1, k2, k3⟩
        refine ⟨k, pK_mem.mpr ⟨k1, k2⟩, ?_⟩
        show decide (T (728 - m) &&& (ptsV ML (nI (728 - k)) ^^^ -1) = 0) = true
        rw [hTe _ (by omega)]
        exact decide_eq_true ((lies_iff hT hc (by omega)).mpr k3)
    have hl : (gpS ML z FB FP K m).length = (pK sf T m).length := by rw [ihm, List.length_map]
    have hcond : (safeV (ptsV ML (cubI m)) z FB FP K = true ∧ withinV (ptsV ML (cubI m)) (fun i => ptsV ML ((gpS ML z FB FP K m).getD i 0)) (gpS ML z FB FP K m).length = false ∧ (gpS ML z FB FP K m).length < 240) ↔ isP sf T (728 - m) = true := by
      rw [ec, hsf _ hc, hTe _ hc, hl]
      constructor
      · intro ⟨q1, q2, q3⟩
        rw [isP_iff hT hc]
        refine ⟨q1, fun o ho hs hd => Classical.byContradiction fun hne => ?_⟩
        have hle := subD_le hc ho hd
        obtain ⟨p, p1, p2, p3⟩ := isP_above hT _ o ho rfl hs
        have hle2 := subD_le ho p1 p3
        rw [hl] at hw
        have : withinV (T (728 - m)) (fun i => ptsV ML ((gpS ML z FB FP K m).getD i 0)) (pK sf T m).length = true := hw.mpr ⟨728 - p, by omega, by rw [show 728 - (728 - p) = p by omega]; exact p2, by rw [show 728 - (728 - p) = p by omega]; exact subD_tr hd p3⟩
        rw [this] at q2
        exact absurd q2 (by decide)
      · intro hp
        obtain ⟨a1, a2⟩ := (isP_iff hT hc).mp hp
        refine ⟨a1, ?_, pK_len hT (by omega) hp⟩
        cases hq : withinV (T (728 - m)) (fun i => ptsV ML ((gpS ML z FB FP K m).getD i 0)) (pK sf T m).length
        · rfl
        · rw [hl] at hw
          obtain ⟨k, k1, k2, k3⟩ := hw.mp hq
          have := a2 _ (by omega) ((isP_iff hT (by omega)).mp k2).1 k3
          omega
    rw [gpS, pK_s]
    by_cases hp : isP sf T (728 - m) = true
    · rw [if_pos (hcond.mpr hp), if_pos hp, ihm, List.map_append, ec]
      rfl
    · rw [if_neg (fun q => hp (hcond.mp q)), if_neg hp, ihm]
theorem map_rev (n : Nat) : (List.range n).map (fun k => n - 1 - k) = (List.range n).reverse := by
  apply List.ext_getElem
  · simp
  · intro i h1 h2
    simp
theorem pK_rev (sf : Nat → Bool) (T : Nat → Int64) : ((pK sf T 729).map (fun k => nI (728 - k))).reverse = (prQ sf T 729).map nI := by
  have e1 : (pK sf T 729).map (fun k => 728 - k) = ((List.range 729).reverse).filter (isP sf T) := by
    have := map_rev 729
    rw [← this, List.filter_map]
    rfl
  have e2 : (pK sf T 729).map (fun k => nI (728 - k)) = ((pK sf T 729).map (fun k => 728 - k)).map nI := by rw [List.map_map]; rfl
  rw [e2, e1, ← List.map_reverse, List.filter_reverse, List.reverse_reverse]
  rfl
theorem primes_eq {MI : Mi} {ML : Nat → Nat → Int64} {A S b f : Nat} (h : lnk MI A S b) (hf5 : f < 5) (t1 : tabOK (ML 58)) (t2 : tabOK (ML 125)) (hz : ML 49 f = ML 138 f) : zPL MI ML A f = (plR MI ML A f).map nI := by
  unfold zPL plR
  rw [gp_eq (sf := fun c => sfP MI ML f c A) (T := ML 125) t2 (fun c hc => by rw [ptsV_nI hc]; exact tab_eq t1 t2 hc) (fun c hc => safe_eq h hf5 t1 t2 hz hc) 729 (Nat.le_refl _), pK_rev]

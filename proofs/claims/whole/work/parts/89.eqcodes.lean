/-! class and reference agree: codes without races -/
/-- bit x of one of the rows of function j: c true the zeros -/
def gbD (c : Bool) (q : Dp) (j x : Nat) : Prop := gb (dR c q j) x = true
theorem gbD_W {c : Bool} {q : Dp} {v : Int32} {p : Int64} {j x : Nat} (hj : j < 5) : gbD c (demW q v p) j x ↔ gbD c q j x ∨ (bitZ v j = c ∧ gb p x = true) := by
  unfold gbD
  rw [dW hj]
  by_cases h : bitZ v j = c
  · rw [if_pos h, gb_or, Bool.or_eq_true]
    exact ⟨fun z => z.elim Or.inl (fun y => Or.inr ⟨h, y⟩), fun z => z.elim Or.inl (fun y => Or.inr y.2)⟩
  · rw [if_neg h]
    exact ⟨Or.inl, fun z => z.elim id (fun y => absurd y.1 h)⟩
def hS (I O C : Nat → Int32) (c : Bool) (j x : Nat) (s : Int32) : Prop := bitZ (valV O C s) j = c ∧ gb (ptL (pointV I C s)) x = true
def hA (I O C : Nat → Int32) (c : Bool) (j x : Nat) (f t b : Int32) : Prop := (bitZ (valV O C f) j = c ∧ gb (ptsL (pointV I C f) b 6 &&& (ptL (pointV I C f ^^^ b) ^^^ -1)) x = true) ∨ (bitZ (valV O C t) j = c ∧ gb (ptsL (pointV I C f ^^^ b) ((pointV I C f ^^^ b) ^^^ pointV I C t) 6) x = true)
theorem gbD_S {I O C : Nat → Int32} {c : Bool} {q : Dp} {j x : Nat} {s : Int32} (hj : j < 5) : gbD c (demS I O C s q) j x ↔ gbD c q j x ∨ hS I O C c j x s := gbD_W hj
theorem gbD_A {I O C : Nat → Int32} {c : Bool} {q : Dp} {j x : Nat} {f t b : Int32} (hj : j < 5) : gbD c (demA I O C f t b q) j x ↔ gbD c q j x ∨ hA I O C c j x f t b := by
  unfold demA hA
  rw [gbD_W hj, gbD_W hj, or_assoc]
theorem clash_iff {q : Dp} : clashV q.1 q.2 = true ↔ ∃ j, j < 5 ∧ ∃ x, x < 64 ∧ gbD true q j x ∧ gbD false q j x := by
  rw [clashV_t]
  constructor
  · intro ⟨k, hk, h⟩
    obtain ⟨x, hx, hg⟩ := gb_ne0.mp h
    rw [gb_and, Bool.and_eq_true] at hg
    exact ⟨k, hk, x, hx, hg⟩
  · intro ⟨k, hk, x, hx, h⟩
    exact ⟨k, hk, gb_ne0.mpr ⟨x, hx, by rw [gb_and, Bool.and_eq_true]; exact h⟩⟩
theorem upA_iff {I O C : Nat → Int32} {P : Nat → Nat → Int32} {s : Int32} {c : Bool} {q : Dp} {j x : Nat} (hj : j < 5) : ∀ k, gbD c (upA I O C P s k q) j x ↔ gbD c q j x ∨ ∃ i, i < k ∧ maxI (P i 0) (P i 1) = s ∧ hA I O C c j x (P i 0) (P i 1) (P i 2 ||| P i 3) := by
  intro k
  induction k with
  | zero => exact ⟨Or.inl, fun z => z.elim id (fun ⟨i, hi, _⟩ => absurd hi (Nat.not_lt_zero i))⟩
  | succ k ih =>
    rw [upA]
    by_cases h : maxI (P k 0) (P k 1) = s
    · rw [if_pos h, gbD_A hj, ih]
      constructor
      · intro z
        rcases z with (z | ⟨i, h1, h2⟩) | z
        · exact Or.inl z
        · exact Or.inr ⟨i, by omega, h2⟩
        · exact Or.inr ⟨k, by omega, h, z⟩
      · intro z
        rcases z with z | ⟨i, h1, h2⟩
        · exact Or.inl (Or.inl z)
        · rcases Nat.lt_or_ge i k with y | y
          · exact Or.inl (Or.inr ⟨i, y, h2⟩)
          · obtain rfl : i = k := by omega
            exact Or.inr h2.2
    · rw [if_neg h, ih]
      constructor
      · intro z
        exact z.elim Or.inl (fun ⟨i, h1, h2⟩ => Or.inr ⟨i, by omega, h2⟩)
      · intro z
        rcases z with z | ⟨i, h1, h2⟩
        · exact Or.inl z
        · rcases Nat.lt_or_ge i k with y | y
          · exact Or.inr ⟨i, y, h2⟩
          · obtain rfl : i = k := by omega
            exact absurd h2.1 h
/-- what STATES below s and ARCS between such have to be -/
def lvD (I O : Nat → Int32) (P : Nat → Nat → Int32) (A : Nat) : Nat → (Nat → Int32) → Dp
  | 0, _ => (fun _ => 0, fun _ => 0)
  | s + 1, C => dmU I O C P (nI s) A (lvD I O P A s C)
theorem gbD_0 {c : Bool} {j x : Nat} : ¬ gbD c ((fun _ => 0, fun _ => 0) : Dp) j x := by
  unfold gbD dR
  cases c
  · exact fun z => by rw [if_neg Bool.false_ne_true, gb_0] at z; cases z
  · exact fun z => by rw [if_pos rfl, gb_0] at z; cases z
theorem lvD_iff {I O C : Nat → Int32} {P : Nat → Nat → Int32} {A : Nat} {c : Bool} {j x : Nat} (hj : j < 5) : ∀ s, gbD c (lvD I O P A s C) j x ↔ (∃ m, m < s ∧ hS I O C c j x (nI m)) ∨ ∃ i, i < A ∧ (∃ m, m < s ∧ maxI (P i 0) (P i 1) = nI m) ∧ hA I O C c j x (P i 0) (P i 1) (P i 2 ||| P i 3) := by
  intro s
  induction s with
  | zero =>
    refine ⟨fun z => absurd z gbD_0, fun z => ?_⟩
    rcases z with ⟨m, hm, _⟩ | ⟨i, _, ⟨m, hm, _⟩, _⟩
    · exact absurd hm (Nat.not_lt_zero m)
    · exact absurd hm (Nat.not_lt_zero m)
  | succ s ih =>
    rw [lvD]
    unfold dmU
    rw [upA_iff hj, gbD_S hj, ih]
    constructor
    · intro z
      rcases z with ((⟨m, h1, h2⟩ | ⟨i, h1, ⟨m, h2, h3⟩, h4⟩) | z) | ⟨i, h1, h2, h3⟩
      · exact Or.inl ⟨m, by omega, h2⟩
      · exact Or.inr ⟨i, h1, ⟨m, by omega, h3⟩, h4⟩
      · exact Or.inl ⟨s, by omega, z⟩
      · exact Or.inr ⟨i, h1, ⟨s, by omega, h2⟩, h3⟩
    · intro z
      rcases z with ⟨m, h1, h2⟩ | ⟨i, h1, ⟨m, h2, h3⟩, h4⟩
      · rcases Nat.lt_or_ge m s with y | y
        · exact Or.inl (Or.inl (Or.inl ⟨m, y, h2⟩))
        · obtain rfl : m = s := by omega
          exact Or.inl (Or.inr h2)
      · rcases Nat.lt_or_ge m s with y | y
        · exact Or.inl (Or.inl (Or.inr ⟨i, h1, ⟨m, y, h3⟩, h4⟩))
        · obtain rfl : m = s := by omega
          exact Or.inr ⟨i, h1, h3, h4⟩
theorem lvD_mono {I O C : Nat → Int32} {P : Nat → Nat → Int32} {A s s' : Nat} (hs : s ≤ s') (h : clashV (lvD I O P A s C).1 (lvD I O P A s C).2 = true) : clashV (lvD I O P A s' C).1 (lvD I O P A s' C).2 = true := by
  obtain ⟨j, hj, x, hx, h1, h2⟩ := clash_iff.mp h
  have up : ∀ c, gbD c (lvD I O P A s C) j x → gbD c (lvD I O P A s' C) j x := fun c z => by
    rw [lvD_iff hj] at z ⊢
    rcases z with ⟨m, h1, h2⟩ | ⟨i, h1, ⟨m, h2, h3⟩, h4⟩
    · exact Or.inl ⟨m, by omega, h2⟩
    · exact Or.inr ⟨i, h1, ⟨m, by omega, h3⟩, h4⟩
  exact clash_iff.mpr ⟨j, hj, x, hx, up _ h1, up _ h2⟩
theorem maxI_n {f g : Nat} (hf : f < 2 ^ 31) (hg : g < 2 ^ 31) : maxI (nI f) (nI g) = nI (if f < g then g else f) := by
  unfold maxI
  by_cases h : f < g
  · rw [if_pos (nI_lt h hg), if_pos h]
  · rw [if_neg (fun z => h ((nI_ltI hf hg).mp z)), if_neg h]
/-- it rests on the codes below s alone -/
theorem lvD_cg {I O C C' : Nat → Int32} {P : Nat → Nat → Int32} {A S : Nat} (hS : S ≤ 6) (hP : okA P A S) : ∀ s, s ≤ S → (∀ m, m < s → C m = C' m) → lvD I O P A s C = lvD I O P A s C' := by
  intro s
  induction s with
  | zero => intro _ _; rfl
  | succ s ih =>
    intro hs hC
    have pt : ∀ m, m < s + 1 → pointV I C (nI m) = pointV I C' (nI m) := fun m hm => by rw [pointV_nI (by omega), pointV_nI (by omega), hC m hm]
    have vl : ∀ m, m < s + 1 → valV O C (nI m) = valV O C' (nI m) := fun m hm => by rw [valV_nI (by omega), valV_nI (by omega), hC m hm]
    have ar : ∀ k q, k ≤ A → upA I O C P (nI s) k q = upA I O C' P (nI s) k q := by
      intro k
      induction k with
      | zero => intro q _; rfl
      | succ k ihk =>
        intro q hk
        obtain ⟨⟨f, hf, ef⟩, ⟨g, hg, eg⟩⟩ := hP k (by omega)
        rw [upA, upA, ihk q (by omega)]
        by_cases h : maxI (P k 0) (P k 1) = nI s
        · rw [if_pos h, if_pos h]
          rw [ef, eg, maxI_n (by omega) (by omega)] at h
          have hm : (if f < g then g else f) = s := (nI_eq (by split <;> omega) (by omega)).mp h
          have hf2 : f < s + 1 := by split at hm <;> omega
          have hg2 : g < s + 1 := by split at hm <;> omega
          rw [ef, eg]
          unfold demA
          rw [pt f hf2, pt g hg2, vl f hf2, vl g hg2]
        · rw [if_neg h, if_neg h]
    rw [lvD, lvD, ih (by omega) (fun m hm => hC m (by omega))]
    unfold dmU
    rw [ar A _ (Nat.le_refl _)]
    unfold demS
    rw [pt s (by omega), vl s (by omega)]
theorem dmU_E {I O C : Nat → Int32} {P : Nat → Nat → Int32} {s : Int32} {A : Nat} {q r : Dp} (h : DpE q r) : DpE (dmU I O C P s A q) (dmU I O C P s A r) := by
  unfold dmU
  have : ∀ k q r, DpE q r → DpE (upA I O C P s k q) (upA I O C P s k r) := by
    intro k
    induction k with
    | zero => intro q r h; exact h
    | succ k ih =>
      intro q r h
      rw [upA, upA]
      split
      · exact demW_E (demW_E (ih q r h) _ _) _ _
      · exact ih q r h
  exact this A _ _ (demW_E h _ _)
/-! BAD 5 and 6 against it -/
theorem clL_iff {I O C : Nat → Int32} {P : Nat → Nat → Int32} {c : Bool} {j x : Nat} (hj : j < 5) : ∀ k i q, (clL (fun i => demA I O C (P i 0) (P i 1) (P i 2 ||| P i 3)) k i q).2 = none → (gbD c (clL (fun i => demA I O C (P i 0) (P i 1) (P i 2 ||| P i 3)) k i q).1 j x ↔ gbD c q j x ∨ ∃ m, i ≤ m ∧ m < i + k ∧ hA I O C c j x (P m 0) (P m 1) (P m 2 ||| P m 3)) := by
  intro k
  induction k with
  | zero => intro i q _; exact ⟨Or.inl, fun z => z.elim id (fun ⟨m, h1, h2, _⟩ => by omega)⟩
  | succ k ih =>
    intro i q h
    rw [clL] at h ⊢
    split at h
    · cases h
    · rename_i hc
      rw [if_neg hc, ih (i + 1) _ h, gbD_A hj]
      constructor
      · intro z
        rcases z with (z | z) | ⟨m, h1, h2, h3⟩
        · exact Or.inl z
        · exact Or.inr ⟨i, Nat.le_refl _, by omega, z⟩
        · exact Or.inr ⟨m, by omega, by omega, h3⟩
      · intro z
        rcases z with z | ⟨m, h1, h2, h3⟩
        · exact Or.inl (Or.inl z)
        · rcases Nat.eq_or_lt_of_le h1 with y | y
          · subst y; exact Or.inl (Or.inr h3)
          · exact Or.inr ⟨m, y, by omega, h3⟩
theorem stL_iff {I O C : Nat → Int32} {c : Bool} {j x : Nat} (hj : j < 5) (q : Dp) : ∀ k, gbD c (stL I O C k q) j x ↔ gbD c q j x ∨ ∃ m, m < k ∧ hS I O C c j x (nI m) := by
  intro k
  induction k with
  | zero => exact ⟨Or.inl, fun z => z.elim id (fun ⟨m, h1, _⟩ => absurd h1 (Nat.not_lt_zero m))⟩
  | succ k ih =>
    rw [stL, gbD_S hj, ih]
    constructor
    · intro z
      rcases z with (z | ⟨m, h1, h2⟩) | z
      · exact Or.inl z
      · exact Or.inr ⟨m, by omega, h2⟩
      · exact Or.inr ⟨k, by omega, z⟩
    · intro z
      rcases z with z | ⟨m, h1, h2⟩
      · exact Or.inl (Or.inl z)
      · rcases Nat.lt_or_ge m k with y | y
        · exact Or.inl (Or.inr ⟨m, y, h2⟩)
        · obtain rfl : m = k := by omega
          exact Or.inr h2
theorem zDp_0 {c : Bool} {q : Dp} {j x : Nat} (hj : j < 5) : ¬ gbD c (zDp q) j x := by
  unfold gbD dR
  cases c
  · intro z
    rw [if_neg Bool.false_ne_true] at z
    have : (zDp q).2 j = 0 := by show zeroTo q.2 5 j = 0; unfold zeroTo; rw [if_pos hj]
    rw [this, gb_0] at z
    cases z
  · intro z
    rw [if_pos rfl] at z
    have : (zDp q).1 j = 0 := by show zeroTo q.1 5 j = 0; unfold zeroTo; rw [if_pos hj]
    rw [this, gb_0] at z
    cases z
/-- a clash at some ARC, if there is one in all -/
theorem clL_some {I O C : Nat → Int32} {P : Nat → Nat → Int32} : ∀ k i q, 0 < k → (clL (fun i => demA I O C (P i 0) (P i 1) (P i 2 ||| P i 3)) k i q).2 = none → ¬ clashV (clL (fun i => demA I O C (P i 0) (P i 1) (P i 2 ||| P i 3)) k i q).1.1 (clL (fun i => demA I O C (P i 0) (P i 1) (P i 2 ||| P i 3)) k i q).1.2 = true := by
  intro k
  induction k with
  | zero => intro i q h; exact absurd h (Nat.not_lt_zero 0)
  | succ k ih =>
    intro i q _ h
    rw [clL] at h ⊢
    split at h
    · cases h
    · rename_i hc
      rw [if_neg hc]
      cases k with
      | zero => exact hc
      | succ k => exact ih _ _ (by omega) h
theorem clL_no {I O C : Nat → Int32} {P : Nat → Nat → Int32} : ∀ k i q i0, (clL (fun i => demA I O C (P i 0) (P i 1) (P i 2 ||| P i 3)) k i q).2 = some i0 → ∃ j, j < 5 ∧ ∃ x, x < 64 ∧ ∀ c, gbD c q j x ∨ ∃ m, i ≤ m ∧ m < i + k ∧ hA I O C c j x (P m 0) (P m 1) (P m 2 ||| P m 3) := by
  intro k
  induction k with
  | zero => intro i q i0 h; cases h
  | succ k ih =>
    intro i q i0 h
    rw [clL] at h
    split at h
    · rename_i hc
      obtain ⟨j, hj, x, hx, h1, h2⟩ := clash_iff.mp hc
      refine ⟨j, hj, x, hx, fun c => ?_⟩
      have : gbD c (demA I O C (P i 0) (P i 1) (P i 2 ||| P i 3) q) j x := by cases c; exact h2; exact h1
      rcases (gbD_A hj).mp this with z | z
      · exact Or.inl z
      · exact Or.inr ⟨i, Nat.le_refl _, by omega, z⟩
    · obtain ⟨j, hj, x, hx, hh⟩ := ih _ _ _ h
      refine ⟨j, hj, x, hx, fun c => ?_⟩
      rcases hh c with z | ⟨m, h1, h2, h3⟩
      · rcases (gbD_A hj).mp z with y | y
        · exact Or.inl y
        · exact Or.inr ⟨i, Nat.le_refl _, by omega, y⟩
      · exact Or.inr ⟨m, by omega, by omega, h3⟩
theorem kw2 : ∀ o, o < 8 → ∀ p, p < 8 → ∀ c, c < 4 → (decide (p = o) || (List.range 5).any (fun j => bitZ (nI (o + 8 * c)) j != bitZ (nI (p + 8 * c)) j)) = true := by decide +kernel
theorem ok_gd {P Q : Nat → Nat → Int32} {A S : Nat} {I O C I' O' C' : Nat → Int32} (hS6 : S ≤ 6) (hP : okA P A S) (hPQ : PE P Q A) (hB : okB P A) (hF : fitT P A S I O) (hC : okC C S) (eI : rE S I I') (eO : rE S O O') (eC : rE S C C') (q : Dp) : (unlO I' O' C' S = none ∧ (clA I' O' C' Q S A q).2 = none) ↔ ¬ clashV (lvD I O P A S C).1 (lvD I O P A S C).2 = true := by
  have hu : unlO I' O' C' S = unlO I O C S := (unlO_E hS6 eI eO eC).symm
  obtain ⟨-, hc⟩ := clA_E hS6 hPQ hB hF hC eI eO eC q q
  rw [hu, ← hc]
  have num : ∀ s, s < S → ∃ a o c, a < 16 ∧ o < 8 ∧ c < 4 ∧ O s = nI o ∧ C s = nI c ∧ pointV I C (nI s) = nI (a + 16 * c) ∧ valV O C (nI s) = nI (o + 8 * c) := fun s hs => by
    obtain ⟨⟨a, ha, ea⟩, ⟨o, ho, eo⟩⟩ := hF.1 s hs
    obtain ⟨c, hcc, ec⟩ := hC s hs
    exact ⟨a, o, c, ha, ho, hcc, eo, ec, by rw [pointV_nI (by omega), ea, ec, kd7 a ha c hcc], by rw [valV_nI (by omega), eo, ec, kv1 o ho c hcc]⟩
  have all : ∀ i, i < A → ∃ m, m < S ∧ maxI (P i 0) (P i 1) = nI m := fun i hi => by
    obtain ⟨⟨f, hf, ef⟩, ⟨g, hg, eg⟩⟩ := hP i hi
    exact ⟨if f < g then g else f, by split <;> omega, by rw [ef, eg, maxI_n (by omega) (by omega)]⟩
  -- two STATES at one point
  have two : ∀ j x, j < 5 → x < 64 → (∃ m, m < S ∧ hS I O C true j x (nI m)) → (∃ m, m < S ∧ hS I O C false j x (nI m)) → ¬ unlO I O C S = none := by
    intro j x hj hx ⟨m, hm, h1, h2⟩ ⟨n, hn, h3, h4⟩ hno
    obtain ⟨a, o, c, ha, ho, hcc, eo, ec, ep, ev⟩ := num m hm
    obtain ⟨a', o', c', ha', ho', hcc', eo', ec', ep', ev'⟩ := num n hn
    rw [ep] at h2
    rw [ep'] at h4
    have b1 : gb (ptL (nI (a + 16 * c))) x = decide (a + 16 * c = x) := gb_bitL _ (by omega) x hx
    have b2 : gb (ptL (nI (a' + 16 * c'))) x = decide (a' + 16 * c' = x) := gb_bitL _ (by omega) x hx
    rw [b1] at h2
    rw [b2] at h4
    have h2 := of_decide_eq_true h2
    have h4 := of_decide_eq_true h4
    rw [ev] at h1
    rw [ev'] at h3
    have hne : ¬ o = o' := fun z => by
      have hcc3 : c = c' := by omega
      rw [z, hcc3, h3] at h1
      cases h1
    have hO : ¬ O m = O n := by rw [eo, eo']; exact fun z => hne ((nI_eq (by omega) (by omega)).mp z)
    have hpt : pointV I C (nI m) = pointV I C (nI n) := by rw [ep, ep', show a + 16 * c = a' + 16 * c' by omega]
    unfold unlO at hno
    rw [List.find?_eq_none] at hno
    rcases Nat.lt_trichotomy m n with z | z | z
    · refine hno n (List.mem_range.mpr hn) (List.any_eq_true.mpr ⟨m, List.mem_range.mpr z, ?_⟩)
      unfold unP
      rw [decide_eq_true hpt, decide_eq_true hO]
      rfl
    · subst z; exact hO rfl
    · refine hno m (List.mem_range.mpr hm) (List.any_eq_true.mpr ⟨n, List.mem_range.mpr z, ?_⟩)
      unfold unP
      have hO2 : ¬ O n = O m := fun y => hO y.symm
      rw [decide_eq_true hpt.symm, decide_eq_true hO2]
      rfl
  constructor
  · intro ⟨h1, h2⟩ hcl
    obtain ⟨j, hj, x, hx, g1, g2⟩ := clash_iff.mp hcl
    rcases Nat.eq_zero_or_pos A with z | z
    · rw [lvD_iff hj] at g1 g2
      rcases g1 with g1 | ⟨i, hi, _⟩
      · rcases g2 with g2 | ⟨i, hi, _⟩
        · exact two j x hj hx g1 g2 h1
        · omega
      · omega
    · refine clL_some A 0 _ z h2 (clash_iff.mpr ⟨j, hj, x, hx, ?_, ?_⟩)
      all_goals
        rw [clL_iff hj A 0 _ h2, stL_iff hj]
      · rw [lvD_iff hj] at g1
        rcases g1 with g1 | ⟨i, hi, _, g⟩
        · exact Or.inl (Or.inr g1)
        · exact Or.inr ⟨i, Nat.zero_le _, by omega, g⟩
      · rw [lvD_iff hj] at g2
        rcases g2 with g2 | ⟨i, hi, _, g⟩
        · exact Or.inl (Or.inr g2)
        · exact Or.inr ⟨i, Nat.zero_le _, by omega, g⟩
  · intro hcl
    refine ⟨?_, ?_⟩
    · cases hun : unlO I O C S with
      | none => rfl
      | some s =>
        exfalso
        have hs : s < S := unlO_lt hun
        have hany := List.find?_some (p := fun s => (List.range s).any (unP I O C s)) hun
        obtain ⟨n, hn, hu2⟩ := List.any_eq_true.mp hany
        have hn : n < s := List.mem_range.mp hn
        unfold unP at hu2
        rw [Bool.and_eq_true, decide_eq_true_eq, decide_eq_true_eq] at hu2
        obtain ⟨a, o, c, ha, ho, hcc, eo, ec, ep, ev⟩ := num s hs
        obtain ⟨a', o', c', ha', ho', hcc', eo', ec', ep', ev'⟩ := num n (by omega)
        have epn : a' + 16 * c' = a + 16 * c := (nI_eq (by omega) (by omega)).mp (ep'.symm.trans (hu2.1.trans ep))
        have hoo : ¬ o' = o := fun z => hu2.2 (by rw [eo, eo', z])
        have hk := kw2 o ho o' ho' c hcc
        rw [decide_eq_false hoo, Bool.false_or, List.any_eq_true] at hk
        obtain ⟨j, hj, hd0⟩ := hk
        have hj : j < 5 := List.mem_range.mp hj
        have hd : (bitZ (nI (o + 8 * c)) j = true ∧ bitZ (nI (o' + 8 * c)) j = false) ∨ (bitZ (nI (o + 8 * c)) j = false ∧ bitZ (nI (o' + 8 * c)) j = true) := by
          cases h1 : bitZ (nI (o + 8 * c)) j <;> cases h2 : bitZ (nI (o' + 8 * c)) j <;> simp_all
        have ecc : c' = c := by omega
        subst ecc
        have bx : ∀ y, y < 64 → gb (ptL (nI y)) y = true := fun y hy => (gb_bitL y hy y hy).trans (decide_eq_true rfl)
        have g : ∀ cc, (bitZ (valV O C (nI s)) j = cc ∨ bitZ (valV O C (nI n)) j = cc) → gbD cc (lvD I O P A S C) j (a + 16 * c') := fun cc hcc2 => by
          rw [lvD_iff hj]
          rcases hcc2 with z | z
          · exact Or.inl ⟨s, hs, z, by rw [ep]; exact bx _ (by omega)⟩
          · exact Or.inl ⟨n, by omega, z, by rw [ep', epn]; exact bx _ (by omega)⟩
        refine hcl (clash_iff.mpr ⟨j, hj, a + 16 * c', by omega, g true ?_, g false ?_⟩)
        · rw [ev, ev']; exact hd.elim (fun y => Or.inl y.1) (fun y => Or.inr y.2)
        · rw [ev, ev']; exact hd.elim (fun y => Or.inr y.2) (fun y => Or.inl y.1)
    · cases hq : (clL (fun i => demA I O C (P i 0) (P i 1) (P i 2 ||| P i 3)) A 0 (stL I O C S (zDp q))).2 with
      | none => rfl
      | some i0 =>
        exfalso
        obtain ⟨j, hj, x, hx, hh⟩ := clL_no A 0 _ i0 hq
        have g : ∀ c, gbD c (lvD I O P A S C) j x := fun c => by
          rw [lvD_iff hj]
          rcases hh c with z | ⟨m, h1, h2, h3⟩
          · rw [stL_iff hj] at z
            rcases z with z | z
            · exact absurd z (zDp_0 hj)
            · exact Or.inl z
          · exact Or.inr ⟨m, by omega, all m (by omega), h3⟩
        exact hcl (clash_iff.mpr ⟨j, hj, x, hx, g true, g false⟩)

/-! class and reference agree: COVERS -/
def CovL (H : Nat → Int64) (np a : Nat) (o : Int64) (ps : List Nat) : Prop := (∀ p, p ∈ ps → a ≤ p ∧ p < np) ∧ ∀ j, j < 64 → gb o j = true → ∃ p, p ∈ ps ∧ gb (H p) j = true
/-- at most k from a on have all of o -/
def Cov (H : Nat → Int64) (np k : Nat) (o : Int64) (a : Nat) : Prop := ∃ ps : List Nat, ps.length ≤ k ∧ CovL H np a o ps
theorem gb_rest {o h : Int64} {j : Nat} (hj : j < 64) : gb (o &&& (h ^^^ -1)) j = true ↔ gb o j = true ∧ ¬ gb h j = true := by
  rw [gb_and, gb_not _ hj, Bool.and_eq_true, Bool.not_eq_true', Bool.not_eq_true]
theorem cov_0 {H : Nat → Int64} {np a : Nat} {o : Int64} : Cov H np 0 o a ↔ o = 0 := by
  constructor
  · intro ⟨ps, hl, h1, h2⟩
    have : ps = [] := List.length_eq_zero_iff.mp (by omega)
    subst this
    rw [gb_eq0]
    intro j hj
    cases hg : gb o j
    · rfl
    · obtain ⟨p, hp, -⟩ := h2 j hj hg
      cases hp
  · intro h
    refine ⟨[], Nat.le_refl _, fun p hp => (by cases hp), fun j hj hg => ?_⟩
    rw [h, gb_0] at hg
    cases hg
theorem cov_k {H : Nat → Int64} {np a k k' : Nat} {o : Int64} (hk : k ≤ k') (h : Cov H np k o a) : Cov H np k' o a := by
  obtain ⟨ps, hl, h1⟩ := h
  exact ⟨ps, by omega, h1⟩
theorem cov_a {H : Nat → Int64} {np a a' k : Nat} {o : Int64} (ha : a ≤ a') (h : Cov H np k o a') : Cov H np k o a := by
  obtain ⟨ps, hl, h1, h2⟩ := h
  exact ⟨ps, hl, fun p hp => ⟨Nat.le_trans ha (h1 p hp).1, (h1 p hp).2⟩, h2⟩
theorem cov_cons {H : Nat → Int64} {np a k p : Nat} {o : Int64} (hp : a ≤ p) (hn : p < np) (h : Cov H np k (o &&& (H p ^^^ -1)) a) : Cov H np (k + 1) o a := by
  obtain ⟨ps, hl, h1, h2⟩ := h
  refine ⟨p :: ps, by rw [List.length_cons]; omega, fun q hq => ?_, fun j hj hg => ?_⟩
  · rcases List.mem_cons.mp hq with rfl | hq
    · exact ⟨hp, hn⟩
    · exact h1 q hq
  · by_cases z : gb (H p) j = true
    · exact ⟨p, List.mem_cons_self, z⟩
    · obtain ⟨q, hq, e⟩ := h2 j hj ((gb_rest hj).mpr ⟨hg, z⟩)
      exact ⟨q, List.mem_cons_of_mem _ hq, e⟩
theorem cov_rem {H : Nat → Int64} {np a a' k p : Nat} {o : Int64} {ps : List Nat} (hl : ps.length ≤ k + 1) (h : CovL H np a o ps) (hp : p ∈ ps) (ha : ∀ q, q ∈ ps → q ≠ p → a' ≤ q) : Cov H np k (o &&& (H p ^^^ -1)) a' := by
  refine ⟨ps.filter (fun q => decide (q ≠ p)), ?_, fun q hq => ?_, fun j hj hg => ?_⟩
  · have : (ps.filter (fun q => decide (q ≠ p))).length < ps.length := List.length_filter_lt_length_iff_exists.mpr ⟨p, hp, by simp⟩
    omega
  · obtain ⟨q1, q2⟩ := List.mem_filter.mp hq
    exact ⟨ha q q1 (of_decide_eq_true q2), (h.1 q q1).2⟩
  · obtain ⟨g1, g2⟩ := (gb_rest hj).mp hg
    obtain ⟨q, hq, e⟩ := h.2 j hj g1
    exact ⟨q, List.mem_filter.mpr ⟨hq, decide_eq_true (fun z => g2 (z ▸ e))⟩, e⟩
theorem cov_cg {H H' : Nat → Int64} {np a k : Nat} {o : Int64} (hH : ∀ p, p < np → H p = H' p) (h : Cov H np k o a) : Cov H' np k o a := by
  obtain ⟨ps, hl, h1, h2⟩ := h
  refine ⟨ps, hl, h1, fun j hj hg => ?_⟩
  obtain ⟨p, hp, e⟩ := h2 j hj hg
  exact ⟨p, hp, by rw [← hH p (h1 p hp).2]; exact e⟩
/-! counts -/
theorem owy_le2 {f g : Nat → Bool} : ∀ n, (∀ k, k < n → f k = true → g k = true) → owy f n ≤ owy g n := by
  intro n
  induction n with
  | zero => intro _; exact Nat.le_refl _
  | succ n ih =>
    intro h
    have := ih (fun k hk => h k (by omega))
    rw [owy, owy]
    by_cases z : f n = true
    · rw [if_pos z, if_pos (h n (by omega) z)]; omega
    · rw [if_neg z]; omega
theorem owy_sum {f g h : Nat → Bool} : ∀ n, (∀ k, k < n → f k = true → g k = true ∨ h k = true) → owy f n ≤ owy g n + owy h n := by
  intro n
  induction n with
  | zero => intro _; exact Nat.le_refl _
  | succ n ih =>
    intro hh
    have := ih (fun k hk => hh k (by omega))
    rw [owy, owy, owy]
    by_cases z : f n = true
    · rw [if_pos z]
      rcases hh n (by omega) z with y | y
      · rw [if_pos y]; omega
      · rw [if_pos y]; omega
    · rw [if_neg z]; omega
theorem owy_eqv {f g : Nat → Bool} : ∀ n, (∀ k, k < n → f k = true → g k = true) → owy f n = owy g n → ∀ k, k < n → g k = true → f k = true := by
  intro n
  induction n with
  | zero => intro _ _ k hk; exact absurd hk (Nat.not_lt_zero k)
  | succ n ih =>
    intro h e k hk hg
    have hle := owy_le2 n (fun k hk => h k (by omega))
    rw [owy, owy] at e
    by_cases z : f n = true
    · rw [if_pos z, if_pos (h n (by omega) z)] at e
      rcases Nat.lt_or_ge k n with y | y
      · exact ih (fun k hk => h k (by omega)) (by omega) k y hg
      · obtain rfl : k = n := by omega
        exact z
    · rw [if_neg z] at e
      by_cases y : g n = true
      · rw [if_pos y] at e; omega
      · rw [if_neg y] at e
        rcases Nat.lt_or_ge k n with x | x
        · exact ih (fun k hk => h k (by omega)) (by omega) k x hg
        · obtain rfl : k = n := by omega
          exact absurd hg y
theorem pc_cov {H : Nat → Int64} {M : Nat} : ∀ (ps : List Nat) (o : Int64), (∀ j, j < 64 → gb o j = true → ∃ p, p ∈ ps ∧ gb (H p) j = true) → (∀ p, p ∈ ps → pcL (H p &&& o) ≤ M) → pcL o ≤ ps.length * M := by
  intro ps
  induction ps with
  | nil =>
    intro o h _
    have : o = 0 := gb_eq0.mpr (fun j hj => by
      cases hg : gb o j
      · rfl
      · obtain ⟨p, hp, -⟩ := h j hj hg; cases hp)
    rw [this]
    have : pcL 0 = 0 := by decide +kernel
    omega
  | cons p ps ih =>
    intro o h hM
    have h1 : pcL o ≤ pcL (H p &&& o) + pcL (o &&& (H p ^^^ -1)) := owy_sum 64 (fun j hj hg => by
      by_cases z : gb (H p) j = true
      · exact Or.inl (by rw [gb_and, z, hg]; rfl)
      · exact Or.inr ((gb_rest hj).mpr ⟨hg, z⟩))
    have h2 := ih (o &&& (H p ^^^ -1)) (fun j hj hg => by
      obtain ⟨g1, g2⟩ := (gb_rest hj).mp hg
      obtain ⟨q, hq, e⟩ := h j hj g1
      rcases List.mem_cons.mp hq with rfl | hq
      · exact absurd e g2
      · exact ⟨q, hq, e⟩) (fun q hq => Nat.le_trans (owy_le2 64 (fun j hj hg => by
        rw [gb_and, Bool.and_eq_true] at hg
        rw [gb_and, hg.1, ((gb_rest hj).mp hg.2).1]
        rfl)) (hM q (List.mem_cons_of_mem _ hq)))
    have h3 := hM p List.mem_cons_self
    rw [List.length_cons, Nat.add_mul, Nat.one_mul]
    omega
theorem pc_pos {o : Int64} (h : ¬ o = 0) : 0 < pcL o := by
  obtain ⟨j, hj, hg⟩ := gb_ne0.mp h
  rcases Nat.eq_zero_or_pos (pcL o) with z | z
  · have := (owy_0 64).mp z
    rw [List.find?_eq_none] at this
    exact absurd hg (this j (List.mem_range.mpr hj))
  · exact z
/-! the most that one has -/
def mN (H : Nat → Int64) (o : Int64) (a : Nat) : Nat → Nat
  | 0 => 0
  | k + 1 => if mN H o a k < pcL (H (a + k) &&& o) then pcL (H (a + k) &&& o) else mN H o a k
theorem mN_le (H : Nat → Int64) (o : Int64) (a : Nat) : ∀ k, mN H o a k ≤ 64 := by
  intro k
  induction k with
  | zero => exact Nat.zero_le _
  | succ k ih =>
    rw [mN]
    split
    · exact pcL_le _
    · exact ih
theorem most_eq (H : Nat → Int64) (o : Int64) (a : Nat) : ∀ k, mostV H o a k = nI (mN H o a k) := by
  intro k
  induction k with
  | zero => rfl
  | succ k ih =>
    have h1 := mN_le H o a k
    have h2 := pcL_le (H (a + k) &&& o)
    rw [mostV, mN, ih, pop_eq]
    unfold maxI
    by_cases z : mN H o a k < pcL (H (a + k) &&& o)
    · rw [if_pos (nI_lt z (by omega)), if_pos z]
    · rw [if_neg (fun y => z ((nI_ltI (by omega) (by omega)).mp y)), if_neg z]
theorem mN_ge {H : Nat → Int64} {o : Int64} {a : Nat} : ∀ k i, i < k → pcL (H (a + i) &&& o) ≤ mN H o a k := by
  intro k
  induction k with
  | zero => intro i hi; exact absurd hi (Nat.not_lt_zero i)
  | succ k ih =>
    intro i hi
    rw [mN]
    rcases Nat.lt_or_ge i k with z | z
    · have := ih i z
      split <;> omega
    · obtain rfl : i = k := by omega
      split <;> omega
theorem mN_ex {H : Nat → Int64} {o : Int64} {a : Nat} : ∀ k, 0 < mN H o a k → ∃ i, i < k ∧ pcL (H (a + i) &&& o) = mN H o a k := by
  intro k
  induction k with
  | zero => intro h; exact absurd h (Nat.not_lt_zero 0)
  | succ k ih =>
    intro h
    rw [mN] at h ⊢
    split
    · exact ⟨k, by omega, rfl⟩
    · rename_i z
      rw [if_neg z] at h
      obtain ⟨i, hi, e⟩ := ih h
      exact ⟨i, by omega, e⟩
theorem bit_and {x : Int64} {k : Nat} (hk : k < 64) : x &&& bitL k = 0 ↔ gb x k = false := and_pt hk
theorem rar_ok {R : Nat → Int64} {nr : Nat} (hnr : nr ≤ 64) (hR : isBits R nr) {o : Int64} (ho : ∀ j, j < 64 → gb o j = true → j < nr) (h0 : ¬ o = 0) : ∃ q, q < nr ∧ gb o q = true ∧ rarV R o nr = bitL q := by
  obtain ⟨j, hj, hg⟩ := gb_ne0.mp h0
  obtain ⟨i, hi, hie⟩ := hR.2 j (ho j hj hg)
  have ex : ∃ i, rarO R o nr = some i := by
    cases hr : rarO R o nr with
    | some i => exact ⟨i, rfl⟩
    | none =>
      unfold rarO at hr
      rw [List.find?_eq_none] at hr
      have := hr i (List.mem_range.mpr hi)
      rw [decide_eq_true_eq, Classical.not_not, hie, Int64.and_comm, bit_and hj, hg] at this
      cases this
  obtain ⟨i', hi'⟩ := ex
  have h1 : i' < nr := List.mem_range.mp (List.mem_of_find?_eq_some hi')
  have h2 : ¬ R i' &&& o = 0 := of_decide_eq_true (List.find?_some (p := fun i => decide (¬ R i &&& o = 0)) hi')
  obtain ⟨q, hq, hqe⟩ := hR.1 i' h1
  refine ⟨q, hq, ?_, ?_⟩
  · rw [hqe, Int64.and_comm, bit_and (by omega)] at h2
    cases z : gb o q
    · exact absurd z h2
    · rfl
  · unfold rarV
    rw [hi']
    exact hqe
theorem sub_pc {h o : Int64} (e : pcL (h &&& o) = pcL o) : ∀ j, j < 64 → gb o j = true → gb h j = true := fun j hj hg => by
  have := owy_eqv 64 (f := gb (h &&& o)) (g := gb o) (fun k _ hk => by rw [gb_and, Bool.and_eq_true] at hk; exact hk.2) e j hj hg
  rw [gb_and, Bool.and_eq_true] at this
  exact this.1
theorem chV_ok {H R : Nat → Int64} {np nr : Nat} (hnr : nr ≤ 64) (hR : isBits R nr) : ∀ k, k ≤ 5 → ∀ o a, (∀ j, j < 64 → gb o j = true → j < nr) → (chV H R np nr k o a = true ↔ Cov H np k o a) := by
  intro k
  induction k with
  | zero =>
    intro _ o a _
    rw [cov_0, chV, decide_eq_true_eq]
  | succ k ih =>
    intro hk o a ho
    rw [chV]
    by_cases h0 : o = 0
    · rw [if_pos h0]
      exact ⟨fun _ => cov_k (Nat.zero_le _) (cov_0.mpr h0), fun _ => rfl⟩
    · rw [if_neg h0, most_eq, pop_eq]
      have hm := mN_le H o a (np - a)
      have hp := pcL_le o
      have hpp := pc_pos h0
      have mx : ∀ p, a ≤ p → p < np → pcL (H p &&& o) ≤ mN H o a (np - a) := fun p h1 h2 => by
        have := mN_ge (H := H) (o := o) (a := a) (np - a) (p - a) (by omega)
        rw [show a + (p - a) = p by omega] at this
        exact this
      have hle : mN H o a (np - a) ≤ pcL o := by
        rcases Nat.eq_zero_or_pos (mN H o a (np - a)) with z | z
        · omega
        · obtain ⟨i, hi, e⟩ := mN_ex _ z
          rw [← e]
          exact owy_le2 64 (fun j _ hj => by rw [gb_and, Bool.and_eq_true] at hj; exact hj.2)
      have e1 : (nI (mN H o a (np - a)) * nI (k + 1) < nI (pcL o)) ↔ mN H o a (np - a) * (k + 1) < pcL o := by
        have hb : mN H o a (np - a) * (k + 1) ≤ 64 * 5 := Nat.mul_le_mul hm hk
        rw [pk_mul]
        exact nI_ltI (by omega) (by omega)
      by_cases h1 : mN H o a (np - a) * (k + 1) < pcL o
      · rw [if_pos (e1.mpr h1)]
        refine ⟨(fun z => by cases z), fun ⟨ps, hl, c1, c2⟩ => ?_⟩
        have := pc_cov (M := mN H o a (np - a)) ps o c2 (fun p hp => mx p (c1 p hp).1 (c1 p hp).2)
        have h3 : ps.length * mN H o a (np - a) ≤ (k + 1) * mN H o a (np - a) := Nat.mul_le_mul_right _ hl
        rw [Nat.mul_comm (k + 1)] at h3
        omega
      · rw [if_neg (fun z => h1 (e1.mp z))]
        have e2 : (nI (mN H o a (np - a)) = nI (pcL o)) ↔ mN H o a (np - a) = pcL o := nI_eq (by omega) (by omega)
        have one : mN H o a (np - a) = pcL o → Cov H np (k + 1) o a := fun e => by
          obtain ⟨i, hi, ei⟩ := mN_ex (H := H) (o := o) (a := a) (np - a) (by omega)
          refine ⟨[a + i], by simp, fun p hp => ?_, fun j hj hg => ⟨a + i, by simp, sub_pc (ei.trans e) j hj hg⟩⟩
          have : p = a + i := by simpa using hp
          omega
        by_cases h2 : k + 1 = 1 ∨ nI (mN H o a (np - a)) = nI (pcL o)
        · rw [if_pos h2, decide_eq_true_eq, e2]
          refine ⟨one, fun ⟨ps, hl, c1, c2⟩ => ?_⟩
          rcases h2 with h2 | h2
          · have hk0 : k = 0 := by omega
            subst hk0
            have := pc_cov (M := mN H o a (np - a)) ps o c2 (fun p hp => mx p (c1 p hp).1 (c1 p hp).2)
            have h3 : ps.length * mN H o a (np - a) ≤ 1 * mN H o a (np - a) := Nat.mul_le_mul_right _ hl
            omega
          · exact e2.mp h2
        · rw [if_neg h2]
          obtain ⟨q, hq, hqo, hqe⟩ := rar_ok hnr hR ho h0
          rw [hqe, List.any_eq_true]
          have sub : ∀ p j, j < 64 → gb (o &&& (H p ^^^ -1)) j = true → j < nr := fun p j hj hg => ho j hj ((gb_rest hj).mp hg).1
          constructor
          · intro ⟨p, hp, hc⟩
            rw [Bool.and_eq_true, Bool.and_eq_true, decide_eq_true_eq, decide_eq_true_eq] at hc
            exact cov_cons hc.1 (List.mem_range.mp hp) ((ih (by omega) _ _ (sub p)).mp hc.2.2)
          · intro ⟨ps, hl, c⟩
            obtain ⟨p, hp, hpb⟩ := c.2 q (by omega) hqo
            refine ⟨p, List.mem_range.mpr (c.1 p hp).2, ?_⟩
            rw [Bool.and_eq_true, Bool.and_eq_true, decide_eq_true_eq, decide_eq_true_eq]
            refine ⟨(c.1 p hp).1, fun z => ?_, (ih (by omega) _ _ (sub p)).mpr (cov_rem hl c hp (fun q hq _ => (c.1 q hq).1))⟩
            rw [bit_and (by omega), hpb] at z
            cases z

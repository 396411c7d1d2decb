/-! class and reference agree: VALUES, what is BAD, what FUNCTIONS have to be (no machine here: functions alone) -/
theorem nI_and (a b : Nat) : nI a &&& nI b = nI (a &&& b) := by
  apply Int32.toBitVec_inj.1
  show BitVec.ofNat 32 a &&& BitVec.ofNat 32 b = BitVec.ofNat 32 (a &&& b)
  apply BitVec.eq_of_getLsbD_eq
  intro i hi
  simp [hi]
theorem nI_xor (a b : Nat) : nI a ^^^ nI b = nI (a ^^^ b) := by
  apply Int32.toBitVec_inj.1
  show BitVec.ofNat 32 a ^^^ BitVec.ofNat 32 b = BitVec.ofNat 32 (a ^^^ b)
  apply BitVec.eq_of_getLsbD_eq
  intro i hi
  simp [hi]
theorem nI_or (a b : Nat) : nI a ||| nI b = nI (a ||| b) := by
  apply Int32.toBitVec_inj.1
  show BitVec.ofNat 32 a ||| BitVec.ofNat 32 b = BitVec.ofNat 32 (a ||| b)
  apply BitVec.eq_of_getLsbD_eq
  intro i hi
  simp [hi]
theorem xor_lt2 {a b k : Nat} (ha : a < 2 ^ k) (hb : b < 2 ^ k) : a ^^^ b < 2 ^ k := Nat.xor_lt_two_pow ha hb
theorem any_cg {f g : Nat → Bool} : ∀ k, (∀ i, i < k → f i = g i) → (List.range k).any f = (List.range k).any g := by
  intro k
  induction k with
  | zero => intro _; rfl
  | succ k ih =>
    intro h
    rw [List.range_succ, List.any_append, List.any_append, ih (fun i hi => h i (by omega))]
    congr 1
    simp only [List.any_cons, List.any_nil, h k (by omega)]
theorem all_cg {f g : Nat → Bool} : ∀ k, (∀ i, i < k → f i = g i) → (List.range k).all f = (List.range k).all g := by
  intro k
  induction k with
  | zero => intro _; rfl
  | succ k ih =>
    intro h
    rw [List.range_succ, List.all_append, List.all_append, ih (fun i hi => h i (by omega))]
    congr 1
    simp only [List.all_cons, List.all_nil, h k (by omega)]
theorem find_cg {f g : Nat → Bool} : ∀ k, (∀ i, i < k → f i = g i) → (List.range k).find? f = (List.range k).find? g := by
  intro k
  induction k with
  | zero => intro _; rfl
  | succ k ih =>
    intro h
    rw [List.range_succ, List.find?_append, List.find?_append, ih (fun i hi => h i (by omega)), List.find?_singleton, List.find?_singleton, h k (by omega)]
def tgE (t u : Tg) : Prop := (∀ s, s < 6 → t.1 s = u.1 s) ∧ (∀ s, s < 6 → ¬ t.1 s = 0 → t.2.1 s = u.2.1 s ∧ t.2.2.1 s = u.2.2.1 s) ∧ (∀ i, i < 8 → t.2.2.2.1 i = u.2.2.2.1 i) ∧ t.2.2.2.2 = u.2.2.2.2
def PE (P Q : Nat → Nat → Int32) (A : Nat) : Prop := ∀ i, i < A → ∀ j, j < 6 → P i j = Q i j
theorem inR6_ex {x : Int32} (h : inR x 6 = true) : ∃ k, k < 6 ∧ x = nI k := inR_ex (N := 6) (by decide) (inR_t.mp h).1 (inR_t.mp h).2
theorem hvZ {t : Tg} {k : Nat} (hk : k < 6) : hvT t (nI k) = true ↔ ¬ t.1 k = 0 := by
  unfold hvT
  rw [decide_eq_true_eq, inR6 hk, nI_clamp (by omega)]
  exact ⟨fun h => h.2, fun h => ⟨rfl, h⟩⟩
theorem hvT_E {t u : Tg} (h : tgE t u) (x : Int32) : hvT t x = hvT u x := by
  unfold hvT
  by_cases h1 : inR x 6 = true
  · obtain ⟨k, hk, rfl⟩ := inR6_ex h1
    rw [nI_clamp (by omega), h.1 k hk]
  · rw [Bool.eq_iff_iff, decide_eq_true_eq, decide_eq_true_eq]
    exact ⟨fun z => absurd z.1 h1, fun z => absurd z.1 h1⟩
theorem spT_E {t u : Tg} (h : tgE t u) (w p : Int32) : tgE (spT t w p) (spT u w p) := by
  obtain ⟨h1, h2, h3, h4⟩ := h
  unfold spT
  rw [← h4]
  split
  · exact ⟨h1, h2, h3, rfl⟩
  · exact ⟨h1, h2, h3, h4⟩
theorem stT_E {t u : Tg} (h : tgE t u) (s i o : Int32) : tgE (stT t s i o) (stT u s i o) := by
  obtain ⟨h1, h2, h3, h4⟩ := h
  unfold stT
  by_cases hs : inR s 6 = true
  · rw [if_pos hs, if_pos hs]
    refine ⟨fun k hk => ?_, fun k hk hz => ?_, h3, h4⟩
    · show up t.1 _ 1 k = up u.1 _ 1 k
      unfold up
      rw [h1 k hk]
    · have hz : ¬ up t.1 s.toNatClampNeg 1 k = 0 := hz
      show up t.2.1 _ i k = up u.2.1 _ i k ∧ up t.2.2.1 _ o k = up u.2.2.1 _ o k
      unfold up at hz ⊢
      split
      · exact ⟨rfl, rfl⟩
      · rename_i e
        rw [if_neg e] at hz
        exact h2 k hk hz
  · rw [if_neg hs, if_neg hs]
    exact ⟨h1, h2, h3, h4⟩
theorem gnT_E {t u : Tg} (h : tgE t u) (x : Nat) : tgE (gnT t x) (gnT u x) := by
  obtain ⟨h1, h2, h3, h4⟩ := h
  refine ⟨h1, h2, fun i hi => ?_, h4⟩
  show up t.2.2.2.1 x 1 i = up u.2.2.2.1 x 1 i
  unfold up
  rw [h3 i hi]
theorem pick_E {t u : Tg} (h : tgE t u) {x : Int32} (hv : hvT t x = true) : pickV t.2.1 6 x = pickV u.2.1 6 x ∧ pickV t.2.2.1 6 x = pickV u.2.2.1 6 x := by
  have h1 : inR x 6 = true := (of_decide_eq_true hv).1
  obtain ⟨k, hk, rfl⟩ := inR6_ex h1
  have hz := (hvZ hk).mp hv
  rw [pickV_nI _ hk (by decide), pickV_nI _ hk (by decide), pickV_nI _ hk (by decide), pickV_nI _ hk (by decide)]
  exact h.2.1 k hk hz
theorem folT_E {P Q : Nat → Nat → Int32} {A x : Nat} {t u : Tg} (hPQ : PE P Q A) (hx : x < A) (h : tgE t u) (hv : hvT t (P x 0) = true) : tgE (folT P x t) (folT Q x u) := by
  unfold folT
  rw [← hPQ x hx 0 (by decide), ← hPQ x hx 1 (by decide), ← hPQ x hx 2 (by decide), ← hPQ x hx 3 (by decide), ← hPQ x hx 4 (by decide), ← hPQ x hx 5 (by decide)]
  obtain ⟨e1, e2⟩ := pick_E h hv
  rw [← e1, ← e2, ← hvT_E h (P x 1)]
  dsimp only
  split
  · split
    · rename_i hw
      obtain ⟨f1, f2⟩ := pick_E h hw
      rw [← f1, ← f2]
      split
      · exact gnT_E h x
      · exact spT_E (gnT_E h x) _ _
    · exact stT_E (gnT_E h x) _ _ _
  · exact spT_E (gnT_E h x) _ _
theorem nxO_E {P Q : Nat → Nat → Int32} {A : Nat} {t u : Tg} (hA : A ≤ 8) (hPQ : PE P Q A) (h : tgE t u) : nxO (fun i => P i 0) A t = nxO (fun i => Q i 0) A u :=
  find_cg A (fun i hi => by show (decide (t.2.2.2.1 i = 0) && hvT t (P i 0)) = (decide (u.2.2.2.1 i = 0) && hvT u (Q i 0)); rw [h.2.2.1 i (by omega), hvT_E h, hPQ i hi 0 (by decide)])
theorem goT_E {P Q : Nat → Nat → Int32} {A : Nat} (hA : A ≤ 8) (hPQ : PE P Q A) : ∀ k t u, tgE t u → tgE (goT P A k t) (goT Q A k u) := by
  intro k
  induction k with
  | zero => intro t u h; exact h
  | succ k ih =>
    intro t u h
    rw [goT, goT, nxO_E hA hPQ h, ← h.2.2.2]
    split
    · cases hq : nxO (fun i => Q i 0) A u with
      | none => exact h
      | some i =>
        have hq2 : nxO (fun i => P i 0) A t = some i := (nxO_E hA hPQ h).trans hq
        have hv : hvT t (P i 0) = true := by
          have := List.find?_some hq2
          exact ((Bool.and_eq_true _ _).mp this).2
        exact ih _ _ (folT_E hPQ (nxO_lt hq) h hv)
    · exact h
theorem goA_E {P Q : Nat → Nat → Int32} {A : Nat} (hA : A ≤ 8) (hPQ : PE P Q A) (b bi bo e p : Int32) (t u : Tg) : tgE (goA P A b bi bo (t.1, t.2.1, t.2.2.1, t.2.2.2.1, e, p)) (goA Q A b bi bo (u.1, u.2.1, u.2.2.1, u.2.2.2.1, e, p)) := by
  refine goT_E hA hPQ A _ _ (stT_E ?_ _ _ _)
  refine ⟨fun s hs => ?_, fun s hs hz => ?_, fun i hi => ?_, rfl⟩
  · show zeroI t.1 6 s = zeroI u.1 6 s
    unfold zeroI
    rw [if_pos hs, if_pos hs]
  · have hz : ¬ zeroI t.1 6 s = 0 := hz
    unfold zeroI at hz
    rw [if_pos hs] at hz
    exact absurd rfl hz
  · show zeroI t.2.2.2.1 8 i = zeroI u.2.2.2.1 8 i
    unfold zeroI
    rw [if_pos hi, if_pos hi]
theorem vlT_E : ∀ k t u, tgE t u → tgE (vlT k t) (vlT k u) := by
  intro k
  induction k with
  | zero => intro t u h; exact h
  | succ k ih =>
    intro t u h
    rw [vlT, vlT, hvT_E (ih t u h)]
    split
    · exact ih t u h
    · exact spT_E (ih t u h) _ _
theorem inT1_E {P Q : Nat → Nat → Int32} {A i : Nat} (hPQ : PE P Q A) (hi : i < A) : ∀ k, k ≤ A → ∀ t u, tgE t u → tgE (inT1 P i k t) (inT1 Q i k u) := by
  intro k
  induction k with
  | zero => intro _ t u h; exact h
  | succ k ih =>
    intro hk t u h
    rw [inT1, inT1, hPQ i hi 0 (by decide), hPQ i hi 2 (by decide), hPQ i hi 3 (by decide), hPQ k (by omega) 0 (by decide), hPQ k (by omega) 2 (by decide), hPQ k (by omega) 3 (by decide)]
    split
    · exact spT_E (ih (by omega) t u h) _ _
    · exact ih (by omega) t u h
theorem inT_E {P Q : Nat → Nat → Int32} {A : Nat} (hPQ : PE P Q A) : ∀ k, k ≤ A → ∀ t u, tgE t u → tgE (inT P A k t) (inT Q A k u) := by
  intro k
  induction k with
  | zero => intro _ t u h; exact h
  | succ k ih =>
    intro hk t u h
    exact inT1_E hPQ (by omega) A (Nat.le_refl _) _ _ (ih (by omega) t u h)
theorem cnd_E {t u : Tg} {f g : Tg → Tg} (h : tgE t u) (hf : tgE (f t) (g u)) : tgE (cnd t f) (cnd u g) := by
  unfold cnd
  rw [← h.2.2.2]
  split
  · exact hf
  · exact h
/-- the rows stay -/
def rwE (t u : Tg) : Prop := t.1 = u.1 ∧ t.2.1 = u.2.1 ∧ t.2.2.1 = u.2.2.1 ∧ t.2.2.2.1 = u.2.2.2.1
theorem rwE_rf (t : Tg) : rwE t t := ⟨rfl, rfl, rfl, rfl⟩
theorem rwE_tr {t u v : Tg} (h : rwE t u) (k : rwE u v) : rwE t v := ⟨h.1.trans k.1, h.2.1.trans k.2.1, h.2.2.1.trans k.2.2.1, h.2.2.2.trans k.2.2.2⟩
theorem rwE_sp (t : Tg) (w p : Int32) : rwE (spT t w p) t := by
  unfold spT
  split
  · exact ⟨rfl, rfl, rfl, rfl⟩
  · exact rwE_rf t
theorem spT_no {t : Tg} {w p : Int32} (h : ¬ t.2.2.2.2.1 = 0) : spT t w p = t := if_neg h
theorem spT_ev {t : Tg} {w p : Int32} (hw : ¬ w = 0) : ¬ (spT t w p).2.2.2.2.1 = 0 := by
  unfold spT
  split
  · exact hw
  · rename_i h; exact h
theorem vlT_rw : ∀ k t, rwE (vlT k t) t := by
  intro k
  induction k with
  | zero => intro t; exact rwE_rf t
  | succ k ih =>
    intro t
    rw [vlT]
    split
    · exact ih t
    · exact rwE_tr (rwE_sp _ _ _) (ih t)
theorem inT1_rw {P : Nat → Nat → Int32} {i : Nat} : ∀ k t, rwE (inT1 P i k t) t := by
  intro k
  induction k with
  | zero => intro t; exact rwE_rf t
  | succ k ih =>
    intro t
    rw [inT1]
    split
    · exact rwE_tr (rwE_sp _ _ _) (ih t)
    · exact ih t
theorem inT_rw {P : Nat → Nat → Int32} {A : Nat} : ∀ k t, rwE (inT P A k t) t := by
  intro k
  induction k with
  | zero => intro t; exact rwE_rf t
  | succ k ih => intro t; exact rwE_tr (inT1_rw _ _) (ih t)
theorem vlT_0 : ∀ k t, k ≤ 6 → (vlT k t).2.2.2.2.1 = 0 → t.2.2.2.2.1 = 0 ∧ ∀ s, s < k → ¬ t.1 s = 0 := by
  intro k
  induction k with
  | zero => intro t _ h; exact ⟨h, fun s hs => absurd hs (Nat.not_lt_zero s)⟩
  | succ k ih =>
    intro t hk h
    rw [vlT] at h
    split at h
    · rename_i hv
      obtain ⟨a, b⟩ := ih t (by omega) h
      refine ⟨a, fun s hs => ?_⟩
      rcases Nat.lt_or_ge s k with z | z
      · exact b s z
      · obtain rfl : s = k := by omega
        have := (hvZ (by omega)).mp hv
        rw [(vlT_rw s t).1] at this
        exact this
    · exact absurd h (spT_ev (by decide))
theorem inT1_0 {P : Nat → Nat → Int32} {i : Nat} : ∀ k t, (inT1 P i k t).2.2.2.2.1 = 0 → inT1 P i k t = t := by
  intro k
  induction k with
  | zero => intro t _; rfl
  | succ k ih =>
    intro t h
    rw [inT1] at h ⊢
    split at h
    · exact absurd h (spT_ev (by decide))
    · rename_i hc
      rw [if_neg hc]
      exact ih t h
theorem inT_0 {P : Nat → Nat → Int32} {A : Nat} : ∀ k t, (inT P A k t).2.2.2.2.1 = 0 → inT P A k t = t := by
  intro k
  induction k with
  | zero => intro t _; rfl
  | succ k ih =>
    intro t h
    rw [inT] at h ⊢
    have e := inT1_0 _ _ h
    rw [e] at h ⊢
    exact ih t h
/-! what going along leaves -/
def okB (P : Nat → Nat → Int32) (A : Nat) : Prop := ∀ i, i < A → (∃ b, b < 16 ∧ P i 2 ||| P i 3 = nI b) ∧ ∃ o, o < 8 ∧ P i 4 ||| P i 5 = nI o
/-- VALUES are small; what is gone along has led from VALUES to VALUES -/
def goI (P : Nat → Nat → Int32) (A : Nat) (t : Tg) : Prop := (∀ s, s < 6 → ¬ t.1 s = 0 → (∃ a, a < 16 ∧ t.2.1 s = nI a) ∧ ∃ a, a < 8 ∧ t.2.2.1 s = nI a) ∧ (t.2.2.2.2.1 = 0 → ∀ i, i < A → ¬ t.2.2.2.1 i = 0 → hvT t (P i 0) = true ∧ hvT t (P i 1) = true ∧ pickV t.2.1 6 (P i 1) = pickV t.2.1 6 (P i 0) ^^^ (P i 2 ||| P i 3) ∧ pickV t.2.2.1 6 (P i 1) = pickV t.2.2.1 6 (P i 0) ^^^ (P i 4 ||| P i 5))
theorem goI_fol {P : Nat → Nat → Int32} {A S x : Nat} (hS : S ≤ 6) (hP : okA P A S) (hB : okB P A) (hx : x < A) {t : Tg} (h : goI P A t) (hv : hvT t (P x 0) = true) (he : t.2.2.2.2.1 = 0) : goI P A (folT P x t) := by
  obtain ⟨⟨f, hf, hfe⟩, ⟨g, hg, hge⟩⟩ := hP x hx
  obtain ⟨⟨b, hb, hbe⟩, ⟨o, ho, hoe⟩⟩ := hB x hx
  have hf6 : f < 6 := by omega
  have hg6 : g < 6 := by omega
  have hvf := (hvZ hf6).mp (hfe ▸ hv)
  obtain ⟨⟨a1, ha1, ea1⟩, ⟨a2, ha2, ea2⟩⟩ := h.1 f hf6 hvf
  have pI : ∀ (F : Nat → Int32) k, k < 6 → pickV F 6 (nI k) = F k := fun F k hk => pickV_nI F hk (by decide)
  unfold folT
  rw [hfe, hge, hbe, hoe, pI _ f hf6, pI _ f hf6]
  dsimp only
  have gone : ∀ i, i < A → ¬ (gnT t x).2.2.2.1 i = 0 → ¬ i = x → ¬ t.2.2.2.1 i = 0 := fun i _ z e => by
    have z : ¬ up t.2.2.2.1 x 1 i = 0 := z
    rw [up_ne _ _ e] at z
    exact z
  split
  · split
    · rename_i hw
      have hvg : ¬ t.1 g = 0 := (hvZ hg6).mp hw
      rw [pI _ g hg6, pI _ g hg6]
      split
      · rename_i hc
        refine ⟨h.1, fun _ i hi z => ?_⟩
        by_cases e : i = x
        · subst e
          rw [hfe, hge, hbe, hoe]
          show hvT t (nI f) = true ∧ hvT t (nI g) = true ∧ pickV t.2.1 6 (nI g) = pickV t.2.1 6 (nI f) ^^^ nI b ∧ pickV t.2.2.1 6 (nI g) = pickV t.2.2.1 6 (nI f) ^^^ nI o
          rw [pI _ f hf6, pI _ g hg6, pI _ f hf6, pI _ g hg6]
          exact ⟨(hvZ hf6).mpr hvf, hw, hc.1, hc.2⟩
        · exact h.2 he i hi (gone i hi z e)
      · refine ⟨?_, fun z => absurd z (spT_ev (by decide))⟩
        obtain ⟨r1, r2, r3, -⟩ := rwE_sp (gnT t x) 2 (nI x)
        rw [r1, r2, r3]
        exact h.1
    · rename_i hw
      have hvg : t.1 g = 0 := Classical.byContradiction fun z => hw ((hvZ hg6).mpr z)
      have hne : f ≠ g := fun z => hvf (z ▸ hvg)
      have hst : stT (gnT t x) (nI g) (t.2.1 f ^^^ nI b) (t.2.2.1 f ^^^ nI o) = (up t.1 g 1, up t.2.1 g (t.2.1 f ^^^ nI b), up t.2.2.1 g (t.2.2.1 f ^^^ nI o), up t.2.2.2.1 x 1, t.2.2.2.2.1, t.2.2.2.2.2) := by
        unfold stT
        rw [if_pos (inR6 hg6), nI_clamp (by omega)]
        rfl
      rw [hst]
      have hkeep : ∀ k, k < 6 → ¬ t.1 k = 0 → k ≠ g := fun k _ z e => z (e ▸ hvg)
      refine ⟨fun s hs z => ?_, fun _ i hi z => ?_⟩
      · have z : ¬ up t.1 g 1 s = 0 := z
        show (∃ a, a < 16 ∧ up t.2.1 g _ s = nI a) ∧ ∃ a, a < 8 ∧ up t.2.2.1 g _ s = nI a
        by_cases e : s = g
        · subst e
          rw [up_eq, up_eq, ea1, ea2, nI_xor, nI_xor]
          exact ⟨⟨_, xor_lt2 (k := 4) ha1 hb, rfl⟩, ⟨_, xor_lt2 (k := 3) ha2 ho, rfl⟩⟩
        · rw [up_ne _ _ e] at z
          rw [up_ne _ _ e, up_ne _ _ e]
          exact h.1 s hs z
      · obtain ⟨⟨f', hf', hfe'⟩, ⟨g', hg', hge'⟩⟩ := hP i hi
        have hf6' : f' < 6 := by omega
        have hg6' : g' < 6 := by omega
        rw [hfe', hge', hvZ hf6', hvZ hg6', pI _ f' hf6', pI _ g' hg6', pI _ f' hf6', pI _ g' hg6']
        show ¬ up t.1 g 1 f' = 0 ∧ ¬ up t.1 g 1 g' = 0 ∧ up t.2.1 g _ g' = up t.2.1 g _ f' ^^^ (P i 2 ||| P i 3) ∧ up t.2.2.1 g _ g' = up t.2.2.1 g _ f' ^^^ (P i 4 ||| P i 5)
        by_cases e : i = x
        · subst e
          have e1 : f' = f := (nI_eq (by omega) (by omega)).mp (hfe'.symm.trans hfe)
          have e2 : g' = g := (nI_eq (by omega) (by omega)).mp (hge'.symm.trans hge)
          rw [e1, e2, hbe, hoe, up_eq, up_eq, up_eq, up_ne _ _ hne, up_ne _ _ hne, up_ne _ _ hne]
          exact ⟨hvf, by decide, rfl, rfl⟩
        · have q := h.2 he i hi (by have z : ¬ up t.2.2.2.1 x 1 i = 0 := z; rw [up_ne _ _ e] at z; exact z)
          rw [hfe', hge', hvZ hf6', hvZ hg6', pI _ f' hf6', pI _ g' hg6', pI _ f' hf6', pI _ g' hg6'] at q
          have n1 := hkeep f' hf6' q.1
          have n2 := hkeep g' hg6' q.2.1
          rw [up_ne _ _ n1, up_ne _ _ n2, up_ne _ _ n1, up_ne _ _ n2, up_ne _ _ n1, up_ne _ _ n2]
          exact q
  · refine ⟨?_, fun z => absurd z (spT_ev (by decide))⟩
    obtain ⟨r1, r2, r3, -⟩ := rwE_sp (gnT t x) 1 (nI x)
    rw [r1, r2, r3]
    exact h.1
theorem goI_go {P : Nat → Nat → Int32} {A S : Nat} (hS : S ≤ 6) (hP : okA P A S) (hB : okB P A) : ∀ k t, goI P A t → ngT t.2.2.2.1 A ≤ k → goI P A (goT P A k t) ∧ ((goT P A k t).2.2.2.2.1 = 0 → nxO (fun i => P i 0) A (goT P A k t) = none) := by
  intro k
  induction k with
  | zero =>
    intro t h hn
    refine ⟨h, fun _ => ?_⟩
    show nxO _ A t = none
    unfold nxO
    rw [List.find?_eq_none]
    intro i hi
    have := ngT_0 (show ngT t.2.2.2.1 A = 0 by omega) i (List.mem_range.mp hi)
    rw [decide_eq_false this, Bool.false_and]
    decide
  | succ k ih =>
    intro t h hn
    rw [goT]
    by_cases he : t.2.2.2.2.1 = 0
    · rw [if_pos he]
      cases hq : nxO (fun i => P i 0) A t with
      | none => exact ⟨h, fun _ => hq⟩
      | some i =>
        have hs := List.find?_some hq
        have hv : hvT t (P i 0) = true := ((Bool.and_eq_true _ _).mp hs).2
        have hg : t.2.2.2.1 i = 0 := of_decide_eq_true ((Bool.and_eq_true _ _).mp hs).1
        have hi := nxO_lt hq
        refine ih _ (goI_fol hS hP hB hi h hv he) ?_
        rw [folT_gone]
        have := ngT_up hg hi
        omega
    · rw [if_neg he]
      exact ⟨h, fun z => absurd z he⟩
/-- all STATES with VALUES: each ARC fits -/
def fitT (P : Nat → Nat → Int32) (A S : Nat) (I O : Nat → Int32) : Prop := (∀ s, s < S → (∃ a, a < 16 ∧ I s = nI a) ∧ ∃ a, a < 8 ∧ O s = nI a) ∧ ∀ i, i < A → ∃ f g, f < S ∧ g < S ∧ P i 0 = nI f ∧ P i 1 = nI g ∧ I g = I f ^^^ (P i 2 ||| P i 3) ∧ O g = O f ^^^ (P i 4 ||| P i 5)
theorem goA_fit {P : Nat → Nat → Int32} {A S b bi bo : Nat} (hA : A ≤ 8) (hS : S ≤ 6) (hP : okA P A S) (hB : okB P A) (hb : b < 6) (hbi : bi < 16) (hbo : bo < 8) {t : Tg} (he0 : t.2.2.2.2.1 = 0) (he : (goA P A (nI b) (nI bi) (nI bo) t).2.2.2.2.1 = 0) (hv : ∀ s, s < S → ¬ (goA P A (nI b) (nI bi) (nI bo) t).1 s = 0) : fitT P A S (goA P A (nI b) (nI bi) (nI bo) t).2.1 (goA P A (nI b) (nI bi) (nI bo) t).2.2.1 := by
  have h0 : stT (ini2 (ini1 t 6) 8) (nI b) (nI bi) (nI bo) = (up (zeroI t.1 6) b 1, up t.2.1 b (nI bi), up t.2.2.1 b (nI bo), zeroI t.2.2.2.1 8, t.2.2.2.2.1, t.2.2.2.2.2) := by
    unfold stT
    rw [if_pos (inR6 hb), nI_clamp (by omega)]
    rfl
  have hi0 : goI P A (stT (ini2 (ini1 t 6) 8) (nI b) (nI bi) (nI bo)) := by
    rw [h0]
    refine ⟨fun s hs z => ?_, fun _ i hi z => ?_⟩
    · have z : ¬ up (zeroI t.1 6) b 1 s = 0 := z
      show (∃ a, a < 16 ∧ up t.2.1 b _ s = nI a) ∧ ∃ a, a < 8 ∧ up t.2.2.1 b _ s = nI a
      by_cases e : s = b
      · subst e
        rw [up_eq, up_eq]
        exact ⟨⟨bi, hbi, rfl⟩, ⟨bo, hbo, rfl⟩⟩
      · rw [up_ne _ _ e] at z
        unfold zeroI at z
        rw [if_pos hs] at z
        exact absurd rfl z
    · have z : ¬ zeroI t.2.2.2.1 8 i = 0 := z
      unfold zeroI at z
      rw [if_pos (by omega)] at z
      exact absurd rfl z
  obtain ⟨g1, g2⟩ := goI_go hS hP hB A _ hi0 (ngT_le _ A)
  have hn := g2 he
  refine ⟨fun s hs => g1.1 s (by omega) (hv s hs), fun i hi => ?_⟩
  obtain ⟨⟨f, hf, hfe⟩, ⟨g, hg, hge⟩⟩ := hP i hi
  have hgone : ¬ (goA P A (nI b) (nI bi) (nI bo) t).2.2.2.1 i = 0 := fun z => by
    unfold nxO at hn
    rw [List.find?_eq_none] at hn
    have : ¬ (decide ((goT P A A (stT (ini2 (ini1 t 6) 8) (nI b) (nI bi) (nI bo))).2.2.2.1 i = 0) && hvT (goT P A A (stT (ini2 (ini1 t 6) 8) (nI b) (nI bi) (nI bo))) (P i 0)) = true := hn i (List.mem_range.mpr hi)
    rw [show decide ((goT P A A (stT (ini2 (ini1 t 6) 8) (nI b) (nI bi) (nI bo))).2.2.2.1 i = 0) = true from decide_eq_true z, hfe, show hvT (goT P A A (stT (ini2 (ini1 t 6) 8) (nI b) (nI bi) (nI bo))) (nI f) = true from (hvZ (by omega)).mpr (hv f hf)] at this
    exact this rfl
  obtain ⟨q1, q2, q3, q4⟩ := g1.2 he i hi hgone
  rw [hfe, hge, pickV_nI _ (show f < 6 by omega) (by decide), pickV_nI _ (show g < 6 by omega) (by decide)] at q3 q4
  exact ⟨f, g, hf, hg, hfe, hge, q3, q4⟩

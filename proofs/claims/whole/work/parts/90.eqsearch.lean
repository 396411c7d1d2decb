/-! class and reference agree: the search for codes -/
theorem odg_hi {N : Nat} (hN : 0 < N) : ∀ m c t, c < N → t < N ^ m → odg N (m + 1) (c * N ^ m + t) 0 = c ∧ ∀ j, j < m → odg N (m + 1) (c * N ^ m + t) (j + 1) = odg N m t j := by
  intro m
  induction m with
  | zero =>
    intro c t hc ht
    rw [Nat.pow_zero] at ht
    refine ⟨?_, fun j hj => absurd hj (Nat.not_lt_zero j)⟩
    rw [odg, if_pos rfl, Nat.pow_zero, Nat.mul_one, show t = 0 by omega, Nat.add_zero]
    exact Nat.mod_eq_of_lt hc
  | succ m ih =>
    intro c t hc ht
    have e0 : c * N ^ (m + 1) + t = N * (c * N ^ m) + t := by rw [Nat.pow_succ, ← Nat.mul_assoc, Nat.mul_comm]
    have e1 : (c * N ^ (m + 1) + t) / N = c * N ^ m + t / N := by rw [e0, Nat.mul_add_div hN]
    have e2 : (c * N ^ (m + 1) + t) % N = t % N := by rw [e0, Nat.mul_add_mod]
    have ht2 : t / N < N ^ m := by rw [Nat.div_lt_iff_lt_mul hN, ← Nat.pow_succ]; exact ht
    obtain ⟨i1, i2⟩ := ih c (t / N) hc ht2
    refine ⟨?_, fun j hj => ?_⟩
    · rw [odg, if_neg (by omega), e1, i1]
    · rw [odg, e1, e2, show odg N (m + 1) t j = if j = m then t % N else odg N m (t / N) j from rfl]
      by_cases z : j = m
      · rw [if_pos (by omega), if_pos z]
      · rw [if_neg (by omega), if_neg z]
        exact i2 j (by omega)
theorem find_add (g : Nat → Bool) (T : Nat) : ∀ M, (List.range (T + M)).find? g = ((List.range T).find? g).or (((List.range M).find? (fun k => g (T + k))).map (fun k => T + k)) := by
  intro M
  induction M with
  | zero => simp
  | succ M ih =>
    rw [show T + (M + 1) = (T + M) + 1 by omega, List.range_succ, List.find?_append, ih, List.range_succ, List.find?_append, List.find?_singleton, List.find?_singleton]
    cases (List.range T).find? g with
    | some t => rfl
    | none =>
      cases (List.range M).find? (fun k => g (T + k)) with
      | some t => rfl
      | none =>
        simp only [Option.map_none, Option.none_or]
        split <;> rfl
/-- counted and kept: T rows, of which those with g count -/
def Rk (S : Nat) (g : Nat → Bool) (Cf : Nat → Nat → Int32) (T n0 : Nat) (fr0 : Nat → Int32) (n : Nat) (fr : Nat → Int32) : Prop := n = n0 + owy g T ∧ ∀ j, j < S → fr j = if n0 = 0 then (match (List.range T).find? g with
    | some t => Cf t j
    | none => fr0 j) else fr0 j
theorem Rk_0 (S : Nat) (g : Nat → Bool) (Cf : Nat → Nat → Int32) (n : Nat) (fr : Nat → Int32) : Rk S g Cf 0 n fr n fr := ⟨rfl, fun j _ => by split <;> rfl⟩
theorem Rk_add {S : Nat} {g : Nat → Bool} {Cf : Nat → Nat → Int32} {T M n0 n1 n2 : Nat} {fr0 fr1 fr2 : Nat → Int32} (h1 : Rk S g Cf T n0 fr0 n1 fr1) (h2 : Rk S (fun t => g (T + t)) (fun t => Cf (T + t)) M n1 fr1 n2 fr2) : Rk S g Cf (T + M) n0 fr0 n2 fr2 := by
  obtain ⟨a1, a2⟩ := h1
  obtain ⟨b1, b2⟩ := h2
  refine ⟨by rw [b1, a1, owy_add]; omega, fun j hj => ?_⟩
  rw [b2 j hj, a2 j hj, find_add]
  by_cases z : n0 = 0
  · rw [if_pos z, if_pos z]
    cases hf : (List.range T).find? g with
    | none =>
      have : owy g T = 0 := (owy_0 T).mpr hf
      rw [if_pos (by omega), Option.none_or]
      cases (List.range M).find? (fun t => g (T + t)) with
      | none => rfl
      | some t => rfl
    | some t =>
      have : ¬ owy g T = 0 := fun y => by rw [(owy_0 T).mp y] at hf; cases hf
      rw [if_neg (by omega)]
      rfl
  · rw [if_neg z, if_neg z, if_neg (by omega)]
theorem Rk_cg {S : Nat} {g g' : Nat → Bool} {Cf Cf' : Nat → Nat → Int32} {T n0 n : Nat} {fr0 fr : Nat → Int32} (hg : ∀ t, t < T → g t = g' t) (hC : ∀ t, t < T → ∀ j, j < S → Cf t j = Cf' t j) (h : Rk S g Cf T n0 fr0 n fr) : Rk S g' Cf' T n0 fr0 n fr := by
  obtain ⟨a1, a2⟩ := h
  refine ⟨by rw [a1, owy_cg T hg], fun j hj => ?_⟩
  rw [a2 j hj, find_cg T hg]
  cases hf : (List.range T).find? g' with
  | none => rfl
  | some t => rw [show (match some t with
    | some t => Cf t j
    | none => fr0 j) = Cf t j from rfl, hC t (List.mem_range.mp (List.mem_of_find?_eq_some hf)) j hj]
theorem Rk_no {S : Nat} {g : Nat → Bool} {Cf : Nat → Nat → Int32} {T n : Nat} {fr : Nat → Int32} (hg : ∀ t, t < T → g t = false) : Rk S g Cf T n fr n fr := by
  have hf : (List.range T).find? g = none := by
    rw [List.find?_eq_none]
    intro t ht
    rw [hg t (List.mem_range.mp ht)]
    decide
  refine ⟨by rw [(owy_0 T).mpr hf]; rfl, fun j _ => ?_⟩
  rw [hf]
  split <;> rfl
def gd (I O : Nat → Int32) (P : Nat → Nat → Int32) (A S : Nat) (C : Nat → Int32) : Bool := !clashV (lvD I O P A S C).1 (lvD I O P A S C).2
/-- the codes below s as they are, the rest by t -/
def cmp (k : Nat → Int32) (s S N t : Nat) : Nat → Int32 := fun j => if j < s then k j else nI (odg N (S - s) t (j - s))
theorem kp_ok {I O : Nat → Int32} {P : Nat → Nat → Int32} {A S N n0 : Nat} (hS : S ≤ 6) (hP : okA P A S) {k : Kt} (hk : k.2.1 = nI n0) (hn : n0 < 10000) (hc : ¬ clashV (lvD I O P A S k.1).1 (lvD I O P A S k.1).2 = true) : ∃ n, (kpK k).2.1 = nI n ∧ Rk S (fun t => gd I O P A S (cmp k.1 S S N t)) (fun t => cmp k.1 S S N t) 1 n0 k.2.2.1 n (kpK k).2.2.1 := by
  have e1 : ∀ j, j < S → cmp k.1 S S N 0 j = k.1 j := fun j hj => by unfold cmp; rw [if_pos hj]
  have hg : gd I O P A S (cmp k.1 S S N 0) = true := by
    unfold gd
    rw [lvD_cg hS hP S (Nat.le_refl _) e1, Bool.eq_false_iff.mpr hc]
    rfl
  have hf : (List.range 1).find? (fun t => gd I O P A S (cmp k.1 S S N t)) = some 0 := by
    show List.find? _ [0] = some 0
    rw [List.find?_singleton, if_pos hg]
  refine ⟨n0 + 1, ?_, ?_, fun j hj => ?_⟩
  · show k.2.1 + 1 = _
    rw [hk]
    exact nI_1 n0
  · show n0 + 1 = n0 + owy _ 1
    rw [owy, owy, if_pos hg]
  · rw [hf]
    show (if k.2.1 = 0 then copyTo k.2.2.1 k.1 6 else k.2.2.1) j = _
    by_cases z : n0 = 0
    · rw [if_pos z, if_pos (by rw [hk, z]; rfl)]
      show copyTo k.2.2.1 k.1 6 j = cmp k.1 S S N 0 j
      unfold copyTo
      rw [if_pos (by omega), e1 j hj]
    · have hz : ¬ k.2.1 = 0 := fun y => z ((nI_eq (b := 0) (by omega) (by decide)).mp (hk.symm.trans y))
      rw [if_neg z, if_neg hz]
theorem asK_ok {I O : Nat → Int32} {P : Nat → Nat → Int32} {A S N : Nat} (hS : S ≤ 6) (hP : okA P A S) (hN : 0 < N) (hN4 : N ≤ 4) : ∀ d s k n0, d + s = 6 → s ≤ S → k.2.1 = nI n0 → n0 + N ^ (S - s) < 10000 → DpE (k.2.2.2 s) (lvD I O P A s k.1) → ¬ clashV (lvD I O P A s k.1).1 (lvD I O P A s k.1).2 = true → (∀ j, j < s → (asK I O P A S N d s k).1 j = k.1 j) ∧ (∀ j, j ≤ s → (asK I O P A S N d s k).2.2.2 j = k.2.2.2 j) ∧ ∃ n, (asK I O P A S N d s k).2.1 = nI n ∧ Rk S (fun t => gd I O P A S (cmp k.1 s S N t)) (fun t => cmp k.1 s S N t) (N ^ (S - s)) n0 k.2.2.1 n (asK I O P A S N d s k).2.2.1 := by
  intro d
  induction d with
  | zero =>
    intro s k n0 hd hs hk hn hE hc
    have : s = S := by omega
    subst this
    rw [asK]
    refine ⟨fun _ _ => rfl, fun _ _ => rfl, ?_⟩
    rw [Nat.sub_self, Nat.pow_zero]
    exact kp_ok hS hP hk (by omega) hc
  | succ d ih =>
    intro s k n0 hd hs hk hn hE hc
    rw [asK]
    rcases Nat.eq_or_lt_of_le hs with z | z
    · subst z
      rw [if_neg (by omega)]
      refine ⟨fun _ _ => rfl, fun _ _ => rfl, ?_⟩
      rw [Nat.sub_self, Nat.pow_zero]
      exact kp_ok hS hP hk (by omega) hc
    · rw [if_pos z]
      obtain ⟨M, hM⟩ : ∃ M, M = N ^ (S - (s + 1)) := ⟨_, rfl⟩
      have eM : N ^ (S - s) = N * M := by rw [hM, show S - s = (S - (s + 1)) + 1 by omega, Nat.pow_succ, Nat.mul_comm]
      have loop : ∀ m, m ≤ N → (∀ j, j < s → (lpK (fun c k => if clashV ((stpK I O P A s c k).2.2.2 (s + 1)).1 ((stpK I O P A s c k).2.2.2 (s + 1)).2 then stpK I O P A s c k else asK I O P A S N d (s + 1) (stpK I O P A s c k)) m k).1 j = k.1 j) ∧ (∀ j, j ≤ s → (lpK (fun c k => if clashV ((stpK I O P A s c k).2.2.2 (s + 1)).1 ((stpK I O P A s c k).2.2.2 (s + 1)).2 then stpK I O P A s c k else asK I O P A S N d (s + 1) (stpK I O P A s c k)) m k).2.2.2 j = k.2.2.2 j) ∧ ∃ n, (lpK (fun c k => if clashV ((stpK I O P A s c k).2.2.2 (s + 1)).1 ((stpK I O P A s c k).2.2.2 (s + 1)).2 then stpK I O P A s c k else asK I O P A S N d (s + 1) (stpK I O P A s c k)) m k).2.1 = nI n ∧ Rk S (fun t => gd I O P A S (cmp k.1 s S N t)) (fun t => cmp k.1 s S N t) (m * M) n0 k.2.2.1 n (lpK (fun c k => if clashV ((stpK I O P A s c k).2.2.2 (s + 1)).1 ((stpK I O P A s c k).2.2.2 (s + 1)).2 then stpK I O P A s c k else asK I O P A S N d (s + 1) (stpK I O P A s c k)) m k).2.2.1 := by
        intro m
        induction m with
        | zero =>
          intro _
          refine ⟨fun _ _ => rfl, fun _ _ => rfl, n0, hk, ?_⟩
          rw [Nat.zero_mul]
          exact Rk_0 _ _ _ _ _
        | succ m ihm =>
          intro hm
          obtain ⟨a1, a2, n1, a3, a4⟩ := ihm (by omega)
          obtain ⟨km, hkm⟩ : ∃ km, km = lpK (fun c k => if clashV ((stpK I O P A s c k).2.2.2 (s + 1)).1 ((stpK I O P A s c k).2.2.2 (s + 1)).2 then stpK I O P A s c k else asK I O P A S N d (s + 1) (stpK I O P A s c k)) m k := ⟨_, rfl⟩
          rw [← hkm] at a1 a2 a3 a4
          rw [lpK, ← hkm]
          obtain ⟨ks, hks⟩ : ∃ ks, ks = stpK I O P A s m km := ⟨_, rfl⟩
          rw [← hks]
          have c1 : ks.1 = up km.1 s (nI m) := by rw [hks]; rfl
          have c2 : ks.2.1 = nI n1 := by rw [hks]; exact a3
          have c3 : ks.2.2.1 = km.2.2.1 := by rw [hks]; rfl
          have cl : ∀ j, j ≤ s → ks.2.2.2 j = k.2.2.2 j := fun j hj => by
            rw [hks]
            show up km.2.2.2 (s + 1) _ j = _
            rw [up_ne _ _ (by omega)]
            exact a2 j hj
          have cc : ∀ j, j < s → ks.1 j = k.1 j := fun j hj => by rw [c1, up_ne _ _ (by omega)]; exact a1 j hj
          have eD : DpE (ks.2.2.2 (s + 1)) (lvD I O P A (s + 1) ks.1) := by
            have e0 : ks.2.2.2 (s + 1) = dmU I O ks.1 P (nI s) A (copyTo (km.2.2.2 (s + 1)).1 (km.2.2.2 s).1 5, copyTo (km.2.2.2 (s + 1)).2 (km.2.2.2 s).2 5) := by
              rw [c1, hks]
              show up km.2.2.2 (s + 1) _ (s + 1) = _
              rw [up_eq]
            rw [e0, lvD, lvD_cg (C := ks.1) (C' := k.1) hS hP s (by omega) cc]
            refine dmU_E (DpE_tr (r := km.2.2.2 s) (fun j hj => ?_) (by rw [a2 s (Nat.le_refl _)]; exact hE))
            show copyTo _ _ 5 j = _ ∧ copyTo _ _ 5 j = _
            unfold copyTo
            rw [if_pos hj, if_pos hj]
            exact ⟨rfl, rfl⟩
          have hMb : m * M + M ≤ N * M := by
            have := Nat.mul_le_mul_right M hm
            rw [Nat.add_mul, Nat.one_mul] at this
            exact this
          have hle := owy_le (fun t => gd I O P A S (cmp k.1 s S N t)) (m * M)
          have hn1 : n1 ≤ n0 + m * M := by rw [a4.1]; omega
          have same : ∀ t, t < M → ∀ j, j < S → cmp ks.1 (s + 1) S N t j = cmp k.1 s S N (m * M + t) j := fun t ht j hj => by
            have ho := odg_hi hN (S - (s + 1)) m t (by omega) (hM ▸ ht)
            rw [← hM, show S - (s + 1) + 1 = S - s by omega] at ho
            unfold cmp
            rcases Nat.lt_trichotomy j s with y | y | y
            · rw [if_pos (by omega), if_pos y]; exact cc j y
            · subst y
              rw [if_pos (by omega), if_neg (by omega), c1, up_eq, Nat.sub_self, ho.1]
            · rw [if_neg (by omega), if_neg (by omega), show j - s = (j - (s + 1)) + 1 by omega, ho.2 _ (by omega)]
          have sameG : ∀ t, t < M → gd I O P A S (cmp ks.1 (s + 1) S N t) = gd I O P A S (cmp k.1 s S N (m * M + t)) := fun t ht => by
            unfold gd
            rw [lvD_cg hS hP S (Nat.le_refl _) (same t ht)]
          rw [Nat.add_mul, Nat.one_mul]
          by_cases hcl : clashV (ks.2.2.2 (s + 1)).1 (ks.2.2.2 (s + 1)).2 = true
          · rw [if_pos hcl]
            refine ⟨cc, cl, n1, c2, ?_⟩
            rw [c3]
            refine Rk_add a4 (Rk_no (fun t ht => ?_))
            rw [← sameG t ht]
            unfold gd
            rw [clashV_E eD] at hcl
            have e2 : lvD I O P A (s + 1) (cmp ks.1 (s + 1) S N t) = lvD I O P A (s + 1) ks.1 := lvD_cg hS hP (s + 1) (by omega) (fun j hj => by unfold cmp; rw [if_pos hj])
            rw [lvD_mono (s := s + 1) (s' := S) (by omega) (by rw [e2]; exact hcl)]
            rfl
          · rw [if_neg hcl]
            obtain ⟨b1, b2, n2, b3, b4⟩ := ih (s + 1) ks n1 (by omega) (by omega) c2 (by rw [← hM]; omega) eD (by rw [← clashV_E eD]; exact hcl)
            refine ⟨fun j hj => (b1 j (by omega)).trans (cc j hj), fun j hj => (b2 j (by omega)).trans (cl j hj), n2, b3, ?_⟩
            rw [← hM, c3] at b4
            exact Rk_add a4 (Rk_cg sameG same b4)
      obtain ⟨r1, r2, r3⟩ := loop N (Nat.le_refl _)
      rw [eM]
      exact ⟨r1, r2, r3⟩
/-- the class's search, in the reference's words -/
theorem search_eq {MI : Mi} {ML : Nat → Nat → Int64} {A S N : Nat} {I' O' V' : Nat → Int32} {Q : Nat → Nat → Int32} (hA : A ≤ 8) (hS : S ≤ 6) (hP : okA (arP MI) A S) (hPQ : PE (arP MI) Q A) (hB : okB (arP MI) A) (hF : fitT (arP MI) A S (MI 44) (MI 45)) (eI : rE S (MI 44) I') (eO : rE S (MI 45) O') (hN : 0 < N) (hN4 : N ≤ 4) (q : Dp) : (srK MI ML A S N).2.1 = nI (owy (okT I' O' V' Q S A N q) (N ^ S)) ∧ ∀ t, (List.range (N ^ S)).find? (okT I' O' V' Q S A N q) = some t → ∀ j, j < S → (srK MI ML A S N).2.2.1 j = nI (odg N S t j) := by
  have hT : N ^ S ≤ 4096 := Nat.le_trans (Nat.pow_le_pow_left hN4 S) (Nat.pow_le_pow_right (n := 4) (by decide) hS)
  have hE : DpE (up (lvC ML) 0 (zDp (ML 65, ML 66)) 0) (lvD (MI 44) (MI 45) (arP MI) A 0 (MI 61)) := by
    rw [up_eq]
    intro k hk
    show zeroTo _ 5 k = 0 ∧ zeroTo _ 5 k = 0
    unfold zeroTo
    rw [if_pos hk, if_pos hk]
    exact ⟨rfl, rfl⟩
  have hc : ¬ clashV (lvD (MI 44) (MI 45) (arP MI) A 0 (MI 61)).1 (lvD (MI 44) (MI 45) (arP MI) A 0 (MI 61)).2 = true := fun z => by
    obtain ⟨j, hj, x, hx, h1, _⟩ := clash_iff.mp z
    exact gbD_0 h1
  obtain ⟨-, -, n, r1, r2⟩ := asK_ok (I := MI 44) (O := MI 45) hS hP hN hN4 6 0 (MI 61, 0, MI 63, up (lvC ML) 0 (zDp (ML 65, ML 66))) 0 rfl (Nat.zero_le _) rfl (by rw [Nat.sub_zero]; omega) hE hc
  rw [Nat.sub_zero] at r2
  have eg : ∀ t, t < N ^ S → gd (MI 44) (MI 45) (arP MI) A S (cmp (MI 61) 0 S N t) = okT I' O' V' Q S A N q t := fun t ht => by
    have hC : okC (cmp (MI 61) 0 S N t) S := fun s hs => ⟨odg N S t s, by have := odg_lt hN S t s; omega, by unfold cmp; rw [if_neg (Nat.not_lt_zero s), Nat.sub_zero, Nat.sub_zero]⟩
    have eC : rE S (cmp (MI 61) 0 S N t) (ocF V' S N t) := fun s hs => by unfold cmp ocF; rw [if_neg (Nat.not_lt_zero s), if_pos hs, Nat.sub_zero, Nat.sub_zero]
    have := ok_gd hS hP hPQ hB hF hC eI eO eC q
    unfold gd okT
    rw [Bool.eq_iff_iff, Bool.and_eq_true, decide_eq_true_eq, decide_eq_true_eq, this, Bool.not_eq_true', Bool.not_eq_true]
  refine ⟨?_, fun t ht j hj => ?_⟩
  · show (asK _ _ _ _ _ _ 6 0 _).2.1 = _
    rw [r1, r2.1, Nat.zero_add, owy_cg _ eg]
  · have := r2.2 j hj
    rw [if_pos rfl, find_cg _ eg, ht] at this
    refine this.trans ?_
    show cmp (MI 61) 0 S N t j = _
    unfold cmp
    rw [if_neg (Nat.not_lt_zero j), Nat.sub_zero, Nat.sub_zero]

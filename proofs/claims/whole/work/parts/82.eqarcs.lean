/-! class and reference agree: REQUIRED CUBES, what falls -/
theorem kv1 : ∀ o, o < 8 → ∀ c, c < 4 → nI o ||| (nI c <<< ((3 : Int32) &&& 31)) = nI (o + 8 * c) := by decide +kernel
theorem kv2 : ∀ v, v < 32 → ∀ k, k < 5 → oneB (nI v) (nI k) = bitR (nI v) (nI k) := by decide +kernel
theorem kv3 : ∀ n, n < 16 → ∀ k, k < 4 → ((nI n &&& ((1 : Int32) <<< (nI k &&& 31)) = 0) ↔ bitR (nI n) (nI k) = false) := by decide +kernel
theorem kv4 : ∀ a, a < 16 → ∀ c, c < 4 → ∀ d, d < 4 → numC (nI (a + 16 * c)) (nI (a + 16 * c) ^^^ nI (a + 16 * d)) 6 = numC (nI (a + 16 * d)) ((nI c ^^^ nI d) <<< ((4 : Int32) &&& 31)) 6 := by decide +kernel
theorem kv5 : ∀ v, v < 32 → ∀ k, k < 5 → (((nI v >>> (nI k &&& 31)) &&& 1 = 0) ↔ bitR (nI v) (nI k) = false) := by decide +kernel
theorem kv6 : ∀ v, v < 32 → ∀ w, w < 32 → ∀ k, k < 5 → (decide (¬ (nI v &&& (nI w ^^^ (-1 : Int32))) &&& ((1 : Int32) <<< (nI k &&& 31)) = 0)) = (bitR (nI v) (nI k) && !bitR (nI w) (nI k)) := by decide +kernel
/-- class and reference have one machine, nothing is BAD -/
def lnk (MI : Mi) (A S b : Nat) : Prop := A ≤ 8 ∧ S ≤ 6 ∧ b < S ∧ MI 1 3 = nI b ∧ PE (arP MI) (arR MI) A ∧ okB (arP MI) A ∧ fitT (arP MI) A S (MI 44) (MI 45) ∧ okC (MI 2) S ∧ rE S (MI 44) (MI 135) ∧ rE S (MI 45) (MI 136) ∧ rE S (MI 2) (MI 128) ∧ ∀ i, i < A → ∀ c, 51 ≤ c → c ≤ 55 → MI c i = dscV (arP MI) (MI 2) (tgC MI) c i
/-- an ARC in numbers: inputs, burst, codes, outputs before and behind -/
def arcN (MI : Mi) (S i f g a b c d o p : Nat) : Prop := f < S ∧ g < S ∧ a < 16 ∧ b < 16 ∧ c < 4 ∧ d < 4 ∧ o < 8 ∧ p < 8 ∧ arP MI i 0 = nI f ∧ arP MI i 1 = nI g ∧ arR MI i 0 = nI f ∧ arR MI i 1 = nI g ∧ arP MI i 2 ||| arP MI i 3 = nI b ∧ arR MI i 2 ||| arR MI i 3 = nI b ∧ pointV (MI 44) (MI 2) (nI f) = nI (a + 16 * c) ∧ pointV (MI 135) (MI 128) (nI f) = nI (a + 16 * c) ∧ pointV (MI 44) (MI 2) (nI g) = nI ((a ^^^ b) + 16 * d) ∧ pointV (MI 135) (MI 128) (nI g) = nI ((a ^^^ b) + 16 * d) ∧ valV (MI 45) (MI 2) (nI f) = nI (o + 8 * c) ∧ valV (MI 136) (MI 128) (nI f) = nI (o + 8 * c) ∧ valV (MI 45) (MI 2) (nI g) = nI (p + 8 * d) ∧ valV (MI 136) (MI 128) (nI g) = nI (p + 8 * d) ∧ pickV (MI 128) 6 (nI f) = nI c ∧ pickV (MI 128) 6 (nI g) = nI d
theorem lnk_arc {MI : Mi} {A S b : Nat} (h : lnk MI A S b) {i : Nat} (hi : i < A) : ∃ f g a b c d o p, arcN MI S i f g a b c d o p := by
  obtain ⟨hA, hS, hb, hbe, hPQ, hB, hF, hC, eI, eO, eC, hD⟩ := h
  obtain ⟨f, g, hf, hg, ef, eg, e1, e2⟩ := hF.2 i hi
  obtain ⟨⟨bb, hbb, ebb⟩, ⟨oo, hoo, eoo⟩⟩ := hB i hi
  obtain ⟨⟨a, ha, ea⟩, ⟨o, ho, eo⟩⟩ := hF.1 f hf
  obtain ⟨⟨a', ha', ea'⟩, ⟨p, hp, ep⟩⟩ := hF.1 g hg
  obtain ⟨c, hc, ec⟩ := hC f hf
  obtain ⟨d, hd, ed⟩ := hC g hg
  have hab : a ^^^ bb < 16 := xor_lt2 (k := 4) ha hbb
  have q1 : pointV (MI 44) (MI 2) (nI f) = nI (a + 16 * c) := by rw [pointV_nI (by omega), ea, ec, kd7 a ha c hc]
  have q2 : pointV (MI 44) (MI 2) (nI g) = nI ((a ^^^ bb) + 16 * d) := by rw [pointV_nI (by omega), e1, ea, ebb, ed, nI_xor, kd7 _ hab d hd]
  have q3 : valV (MI 45) (MI 2) (nI f) = nI (o + 8 * c) := by rw [valV_nI (by omega), eo, ec, kv1 o ho c hc]
  have q4 : valV (MI 45) (MI 2) (nI g) = nI (p + 8 * d) := by rw [valV_nI (by omega), ep, ed, kv1 p hp d hd]
  refine ⟨f, g, a, bb, c, d, o, p, hf, hg, ha, hbb, hc, hd, ho, hp, ef, eg, ?_, ?_, ebb, ?_, q1, ?_, q2, ?_, q3, ?_, q4, ?_, ?_, ?_⟩
  · rw [← hPQ i hi 0 (by decide)]; exact ef
  · rw [← hPQ i hi 1 (by decide)]; exact eg
  · rw [← hPQ i hi 2 (by decide), ← hPQ i hi 3 (by decide)]; exact ebb
  · rw [← pointV_E hS eI eC hf]; exact q1
  · rw [← pointV_E hS eI eC hg]; exact q2
  · rw [← valV_E hS eO eC hf]; exact q3
  · rw [← valV_E hS eO eC hg]; exact q4
  · rw [pickV_nI _ (by omega) (by decide), ← eC f hf]; exact ec
  · rw [pickV_nI _ (by omega) (by decide), ← eC g hg]; exact ed
theorem lnk_row {MI : Mi} {A S b : Nat} (h : lnk MI A S b) {i c : Nat} (hi : i < A) (h1 : 51 ≤ c) (h2 : c ≤ 55) : pickV (MI c) 8 (nI i) = dscV (arP MI) (MI 2) (tgC MI) c i := by
  have hA := h.1
  rw [pickV_nI _ (by omega) (by decide)]
  exact h.2.2.2.2.2.2.2.2.2.2.2 i hi c h1 h2
/-- what the class keeps of an ARC, in the reference's words -/
theorem lnk_dsc {MI : Mi} {A S b : Nat} (h : lnk MI A S b) {i : Nat} (hi : i < A) : MI 51 i = bcR MI i ∧ MI 52 i = tcR MI i ∧ MI 53 i = pointV (MI 135) (MI 128) (arR MI i 0) ∧ MI 54 i = valV (MI 136) (MI 128) (arR MI i 0) ∧ MI 55 i = valV (MI 136) (MI 128) (arR MI i 1) := by
  obtain ⟨f, g, a, bb, c, d, o, p, hf, hg, ha, hb, hc, hd, ho, hp, e1, e2, e3, e4, e5, e6, e7, e8, e9, e10, e11, e12, e13, e14, e15, e16⟩ := lnk_arc h hi
  have hD := h.2.2.2.2.2.2.2.2.2.2.2 i hi
  have hab : a ^^^ bb < 16 := xor_lt2 (k := 4) ha hb
  have d1 : MI 51 i = numC (pointV (MI 44) (MI 2) (arP MI i 0)) (arP MI i 2 ||| arP MI i 3) 6 := hD 51 (by decide) (by decide)
  have d2 : MI 52 i = numC (pointV (MI 44) (MI 2) (arP MI i 0) ^^^ (arP MI i 2 ||| arP MI i 3)) ((pointV (MI 44) (MI 2) (arP MI i 0) ^^^ (arP MI i 2 ||| arP MI i 3)) ^^^ pointV (MI 44) (MI 2) (arP MI i 1)) 6 := hD 52 (by decide) (by decide)
  have d3 : MI 53 i = pointV (MI 44) (MI 2) (arP MI i 0) := hD 53 (by decide) (by decide)
  have d4 : MI 54 i = valV (MI 45) (MI 2) (arP MI i 0) := hD 54 (by decide) (by decide)
  have d5 : MI 55 i = valV (MI 45) (MI 2) (arP MI i 1) := hD 55 (by decide) (by decide)
  refine ⟨?_, ?_, ?_, ?_, ?_⟩
  · rw [d1, e1, e7, e5]; unfold bcR; rw [e3, e8, e6]
  · rw [d2, e1, e2, e7, e9, e5, nI_xor, kd8 a ha c hc bb hb, kv4 _ hab c hc d hd]
    unfold tcR
    rw [e3, e4, e10, e15, e16]
  · rw [d3, e1, e7, e3, e8]
  · rw [d4, e1, e11, e3, e12]
  · rw [d5, e2, e13, e4, e14]
theorem frF_nq (fp : Int32) {n : Nat} (hn : n < 16) : ∀ k, k ≤ 4 → frF fp (nI n) k = nqF fp (nI n) k := by
  intro k
  induction k with
  | zero => intro _; rfl
  | succ k ih =>
    intro hk
    rw [frF, nqF, ih (by omega)]
    have := kv3 n hn k (by omega)
    by_cases h : bitR (nI n) (nI k) = true
    · rw [if_pos h, if_neg (fun z => by rw [this.mp z] at h; exact absurd h (by decide))]
    · rw [if_neg h, if_pos (this.mpr (Bool.eq_false_iff.mpr h))]
theorem fr_nq {MI : Mi} {A S b : Nat} (h : lnk MI A S b) {i f : Nat} (hi : i < A) (hf5 : f < 5) : frMI MI (nI i) (nI f) = nqA MI (nI f) i := by
  obtain ⟨d1, d2, d3, d4, d5⟩ := lnk_dsc h hi
  have hA := h.1
  obtain ⟨f', g, a, bb, c, d, o, p, hf, hg, ha, hb, hc, hd, ho, hp, e1, e2, e3, e4, e5, e6, e7, e8, e9, e10, e11, e12, e13, e14, e15, e16⟩ := lnk_arc h hi
  have pk : ∀ r : Nat → Int32, pickV r 8 (nI i) = r i := fun r => pickV_nI r (by omega) (by decide)
  have hbu : burstV MI 1 (nI i) = nI bb := by
    unfold burstV
    rw [show partV MI 1 (nI i) 2 = arP MI i 2 from arP_nI (j := 2) (by omega) (by decide), show partV MI 1 (nI i) 3 = arP MI i 3 from arP_nI (j := 3) (by omega) (by decide)]
    exact e5
  unfold frMI
  rw [pk, pk, pk, pk, pk, hbu, d1, d2, d3, d4, d5]
  unfold nqA
  dsimp only
  rw [e3, e4, e12, e14, e8, e6]
  unfold frq
  rw [kv2 _ (by omega) f hf5, kv2 _ (by omega) f hf5]
  rw [frF_nq _ hb 4 (Nat.le_refl _)]
  generalize nqF (nI (a + 16 * c)) (nI bb) 4 = L1
  generalize bcR MI i = L2
  generalize tcR MI i = L3
  cases bitR (nI (o + 8 * c)) (nI f) <;> cases bitR (nI (p + 8 * d)) (nI f) <;> simp
theorem reqA_eq {MI : Mi} {A S b f : Nat} (h : lnk MI A S b) (hf5 : f < 5) : ∀ k, k ≤ A → reqA MI (nI f) k = rqA MI (nI f) k := by
  intro k
  induction k with
  | zero => intro _; rfl
  | succ k ih => intro hk; rw [reqA, rqA, ih (by omega), fr_nq h (by omega) hf5]
theorem req_eq {MI : Mi} {A S b f : Nat} (h : lnk MI A S b) (hf5 : f < 5) : reqL MI (nI f) A = rqL MI (nI f) A b := by
  obtain ⟨hA, hS, hb, hbe, hPQ, hB, hF, hC, eI, eO, eC, hD⟩ := id h
  obtain ⟨⟨a, ha, ea⟩, ⟨o, ho, eo⟩⟩ := hF.1 b hb
  obtain ⟨c, hc, ec⟩ := hC b hb
  have q3 : valV (MI 45) (MI 2) (nI b) = nI (o + 8 * c) := by rw [valV_nI (by omega), eo, ec, kv1 o ho c hc]
  unfold reqL rqL
  rw [hbe, ← valV_E hS eO eC hb, ← pointV_E hS eI eC hb, reqA_eq h hf5 A (Nat.le_refl _), q3]
  have := kv5 (o + 8 * c) (by omega) f hf5
  by_cases h1 : bitR (nI (o + 8 * c)) (nI f) = true
  · rw [if_pos h1, if_neg (fun z => by rw [this.mp z] at h1; exact absurd h1 (by decide))]
  · rw [if_neg h1, if_pos (this.mpr (Bool.eq_false_iff.mpr h1))]
theorem fall_eq {MI : Mi} {A S b f : Nat} (h : lnk MI A S b) (hf5 : f < 5) {i : Nat} (hi : i < A) : fallV (MI 54) (MI 55) (nI f) (nI i) = flR MI (nI f) i := by
  obtain ⟨d1, d2, d3, d4, d5⟩ := lnk_dsc h hi
  have hA := h.1
  obtain ⟨f', g, a, bb, c, d, o, p, hf, hg, ha, hb, hc, hd, ho, hp, e1, e2, e3, e4, e5, e6, e7, e8, e9, e10, e11, e12, e13, e14, e15, e16⟩ := lnk_arc h hi
  unfold fallV flR
  rw [pickV_nI _ (show i < 8 by omega) (by decide), pickV_nI _ (show i < 8 by omega) (by decide), d4, d5, e3, e4, e12, e14]
  exact kv6 _ (by omega) _ (by omega) f hf5
theorem fallR_n {F : Nat → Bool} {B P FB FP : Nat → Int64} {V : Mi} {x : Int32} : ∀ k, (∀ i, i < k → F i = flR V x i) → (fallR F B P FB FP k).1 = flN V x k := by
  intro k
  induction k with
  | zero => intro _; rfl
  | succ k ih =>
    intro h
    rw [fallR, flN, ← h k (by omega), ← ih (fun i hi => h i (by omega))]
    split <;> rfl
theorem falls_eq {MI : Mi} {ML : Nat → Nat → Int64} {A S b f : Nat} (h : lnk MI A S b) (hf5 : f < 5) : (zR MI ML A f).1 = flN MI (nI f) A := fallR_n A (fun i hi => fall_eq h hf5 hi)
/-- what holds of all that falls -/
theorem fallR_all {F : Nat → Bool} {B P FB FP : Nat → Int64} {H : Int64 → Int64 → Bool} : ∀ k, (List.range (fallR F B P FB FP k).1).all (fun j => H ((fallR F B P FB FP k).2.1 j) ((fallR F B P FB FP k).2.2 j)) = (List.range k).all (fun i => !F i || H (B i) (P i)) := by
  intro k
  induction k with
  | zero => rfl
  | succ k ih =>
    rw [fallR, List.range_succ, List.all_append, ← ih]
    by_cases hF : F k = true
    · rw [if_pos hF]
      dsimp only
      rw [List.range_succ, List.all_append]
      congr 1
      · refine all_cg _ (fun j hj => ?_)
        rw [up_ne _ _ (by omega), up_ne _ _ (by omega)]
      · simp only [List.all_cons, List.all_nil, Bool.and_true, up_eq, hF, Bool.not_true, Bool.false_or]
    · rw [if_neg hF]
      simp only [List.all_cons, List.all_nil, Bool.and_true, Bool.eq_false_iff.mpr hF, Bool.not_false, Bool.true_or]

/-! class and reference agree: BAD 5 and 6, what FUNCTIONS have to be -/
theorem pointV_nI {I C : Nat → Int32} {k : Nat} (hk : k < 6) : pointV I C (nI k) = I k ||| (C k <<< ((4 : Int32) &&& 31)) := by
  unfold pointV
  rw [pickV_nI _ hk (by decide), pickV_nI _ hk (by decide)]
theorem valV_nI {O C : Nat → Int32} {k : Nat} (hk : k < 6) : valV O C (nI k) = O k ||| (C k <<< ((3 : Int32) &&& 31)) := by
  unfold valV
  rw [pickV_nI _ hk (by decide), pickV_nI _ hk (by decide)]
/-- rows agree below S -/
def rE (S : Nat) (F H : Nat → Int32) : Prop := ∀ s, s < S → F s = H s
theorem pointV_E {S : Nat} {I C I' C' : Nat → Int32} (hS : S ≤ 6) (hI : rE S I I') (hC : rE S C C') {k : Nat} (hk : k < S) : pointV I C (nI k) = pointV I' C' (nI k) := by
  rw [pointV_nI (by omega), pointV_nI (by omega), hI k hk, hC k hk]
theorem valV_E {S : Nat} {O C O' C' : Nat → Int32} (hS : S ≤ 6) (hO : rE S O O') (hC : rE S C C') {k : Nat} (hk : k < S) : valV O C (nI k) = valV O' C' (nI k) := by
  rw [valV_nI (by omega), valV_nI (by omega), hO k hk, hC k hk]
theorem unP_E {S : Nat} {I O C I' O' C' : Nat → Int32} (hS : S ≤ 6) (hI : rE S I I') (hO : rE S O O') (hC : rE S C C') {s o : Nat} (hs : s < S) (ho : o < S) : unP I O C s o = unP I' O' C' s o := by
  unfold unP
  rw [pointV_E hS hI hC ho, pointV_E hS hI hC hs, hO s hs, hO o ho]
theorem unlO_E {S : Nat} {I O C I' O' C' : Nat → Int32} (hS : S ≤ 6) (hI : rE S I I') (hO : rE S O O') (hC : rE S C C') : unlO I O C S = unlO I' O' C' S := by
  unfold unlO
  refine find_cg S (fun s hs => any_cg s (fun o ho => unP_E hS hI hO hC hs (by omega)))
/-- BAD 5 as the class seeks it -/
theorem twT1_no {C : Nat → Int32} {s : Nat} : ∀ k t, ¬ t.2.2.2.2.1 = 0 → twT1 C s k t = t := by
  intro k
  induction k with
  | zero => intro t _; rfl
  | succ k ih =>
    intro t h
    rw [twT1, ih t h]
    split
    · exact spT_no h
    · rfl
theorem twT1_eq {C : Nat → Int32} {s : Nat} (hs : s < 6) : ∀ k t, k ≤ s → t.2.2.2.2.1 = 0 → twT1 C s k t = if (List.range k).any (unP t.2.1 t.2.2.1 C s) = true then spT t 5 (nI s) else t := by
  intro k
  induction k with
  | zero => intro t _ _; rfl
  | succ k ih =>
    intro t hk h
    rw [twT1, ih t (by omega) h, List.range_succ, List.any_append]
    by_cases ha : (List.range k).any (unP t.2.1 t.2.2.1 C s) = true
    · rw [if_pos ha, ha, Bool.true_or, if_pos rfl, spT_no (spT_ev (by decide))]
      split <;> rfl
    · rw [if_neg ha, Bool.eq_false_iff.mpr ha, Bool.false_or]
      have e : (List.any [k] (unP t.2.1 t.2.2.1 C s) = true) ↔ (pointV t.2.1 C (nI s) = pointV t.2.1 C (nI k) ∧ ¬ pickV t.2.2.1 6 (nI s) = pickV t.2.2.1 6 (nI k)) := by
        rw [pickV_nI _ hs (by decide), pickV_nI _ (show k < 6 by omega) (by decide)]
        simp only [List.any_cons, List.any_nil, Bool.or_false, unP, Bool.and_eq_true, decide_eq_true_eq]
        exact ⟨fun z => ⟨z.1.symm, fun y => z.2 y.symm⟩, fun z => ⟨z.1.symm, fun y => z.2 y.symm⟩⟩
      by_cases hc : pointV t.2.1 C (nI s) = pointV t.2.1 C (nI k) ∧ ¬ pickV t.2.2.1 6 (nI s) = pickV t.2.2.1 6 (nI k)
      · rw [if_pos hc, if_pos (e.mpr hc)]
      · rw [if_neg hc, if_neg (fun z => hc (e.mp z))]
theorem twT_eq {C : Nat → Int32} : ∀ S t, S ≤ 6 → t.2.2.2.2.1 = 0 → twT C S t = match unlO t.2.1 t.2.2.1 C S with
    | some s => spT t 5 (nI s)
    | none => t := by
  intro S
  induction S with
  | zero => intro t _ _; rfl
  | succ k ih =>
    intro t hk h
    have e : unlO t.2.1 t.2.2.1 C (k + 1) = (unlO t.2.1 t.2.2.1 C k).or (if (List.range k).any (unP t.2.1 t.2.2.1 C k) = true then some k else none) := by
      unfold unlO
      rw [List.range_succ, List.find?_append, List.find?_singleton]
    rw [twT, ih t (by omega) h, e]
    cases hu : unlO t.2.1 t.2.2.1 C k with
    | some s =>
      show twT1 C k k (spT t 5 (nI s)) = spT t 5 (nI s)
      exact twT1_no _ _ (spT_ev (by decide))
    | none =>
      show twT1 C k k t = _
      rw [twT1_eq (by omega) k t (Nat.le_refl _) h, Option.none_or]
      split
      · rfl
      · rfl
/-! demands -/
def DpE (q r : Dp) : Prop := ∀ k, k < 5 → q.1 k = r.1 k ∧ q.2 k = r.2 k
theorem demW_E {q r : Dp} (h : DpE q r) (v : Int32) (p : Int64) : DpE (demW q v p) (demW r v p) := fun k hk => by
  show wantZ q.1 v p 5 k = wantZ r.1 v p 5 k ∧ wantO q.2 v p 5 k = wantO r.2 v p 5 k
  unfold wantZ wantO
  rw [(h k hk).1, (h k hk).2]
  exact ⟨rfl, rfl⟩
theorem DpE_tr {q r s : Dp} (h : DpE q r) (g : DpE r s) : DpE q s := fun k hk => ⟨(h k hk).1.trans (g k hk).1, (h k hk).2.trans (g k hk).2⟩
theorem clashV_E {q r : Dp} (h : DpE q r) : clashV q.1 q.2 = clashV r.1 r.2 := any_cg 5 (fun k hk => by rw [(h k hk).1, (h k hk).2])
/-- union of some of a row -/
def uF (p : Nat → Bool) (g : Nat → Int64) : Nat → Int64
  | 0 => 0
  | k + 1 => if p k = true then uF p g k ||| g k else uF p g k
theorem uF_cg {p q : Nat → Bool} {g : Nat → Int64} : ∀ k, (∀ i, i < k → p i = q i) → uF p g k = uF q g k := by
  intro k
  induction k with
  | zero => intro _; rfl
  | succ k ih => intro h; rw [uF, uF, ih (fun i hi => h i (by omega)), h k (by omega)]
theorem uF_f {g : Nat → Int64} : ∀ k, uF (fun _ => false) g k = 0 := by
  intro k
  induction k with
  | zero => rfl
  | succ k ih => rw [uF, if_neg (by decide)]; exact ih
theorem wZ {q : Dp} {v : Int32} {p : Int64} {k : Nat} (hk : k < 5) : (demW q v p).1 k = if bitZ v k = true then q.1 k ||| p else q.1 k := by
  show wantZ q.1 v p 5 k = _
  unfold wantZ
  by_cases h : bitZ v k = true
  · rw [if_pos ⟨hk, h⟩, if_pos h]
  · rw [if_neg (fun z => h z.2), if_neg h]
theorem wO {q : Dp} {v : Int32} {p : Int64} {k : Nat} (hk : k < 5) : (demW q v p).2 k = if bitZ v k = false then q.2 k ||| p else q.2 k := by
  show wantO q.2 v p 5 k = _
  unfold wantO
  by_cases h : bitZ v k = false
  · rw [if_pos ⟨hk, h⟩, if_pos h]
  · rw [if_neg (fun z => h z.2), if_neg h]
theorem or0 (x : Int64) : x ||| 0 = x := Int64.or_zero
theorem orA (x y z : Int64) : (x ||| y) ||| z = x ||| (y ||| z) := Int64.or_assoc x y z
/-- one of the two rows, by c: true the zeros -/
def dR (c : Bool) (q : Dp) : Nat → Int64 := if c = true then q.1 else q.2
theorem dW {c : Bool} {q : Dp} {v : Int32} {p : Int64} {k : Nat} (hk : k < 5) : dR c (demW q v p) k = if bitZ v k = c then dR c q k ||| p else dR c q k := by
  cases c
  · exact wO hk
  · exact wZ hk
theorem ly1_eq {I O C : Nat → Int32} {f t b : Int32} {c : Bool} {j : Nat} (hj : j < 5) (q : Dp) : ∀ m, dR c (lyA1 I O C f t b m q) j = dR c q j ||| uF (fun s => decide (nI s &&& (b ^^^ -1) = 0) && (bitZ (if nI s = b then valV O C t else valV O C f) j == c)) (fun s => ptL (pointV I C f ^^^ nI s)) m := by
  intro m
  induction m with
  | zero => exact (or0 _).symm
  | succ m ih =>
    rw [lyA1, uF]
    by_cases h1 : nI m &&& (b ^^^ -1) = 0
    · rw [if_pos h1, dW hj, ih]
      by_cases h2 : bitZ (if nI m = b then valV O C t else valV O C f) j = c
      · rw [if_pos h2, if_pos (by rw [decide_eq_true h1, h2]; simp), orA]
      · rw [if_neg h2, if_neg (by rw [decide_eq_true h1, Bool.true_and]; simpa using h2)]
    · rw [if_neg h1, if_neg (by rw [decide_eq_false h1, Bool.false_and]; decide), ih]
theorem ly2_eq {I O C : Nat → Int32} {f t : Int32} {c : Bool} {j : Nat} (hj : j < 5) (q : Dp) : ∀ m, dR c (lyA2 I O C f t m q) j = dR c q j ||| uF (fun s => decide (nI s &&& ((pickV C 6 f ^^^ pickV C 6 t) ^^^ -1) = 0) && (bitZ (valV O C t) j == c)) (fun s => ptL (pointV I C t ^^^ (nI s <<< ((4 : Int32) &&& 31)))) m := by
  intro m
  induction m with
  | zero => exact (or0 _).symm
  | succ m ih =>
    rw [lyA2, uF]
    by_cases h1 : nI m &&& ((pickV C 6 f ^^^ pickV C 6 t) ^^^ -1) = 0
    · rw [if_pos h1, dW hj, ih]
      by_cases h2 : bitZ (valV O C t) j = c
      · rw [if_pos h2, if_pos (by rw [decide_eq_true h1, h2]; simp), orA]
      · rw [if_neg h2, if_neg (by rw [decide_eq_true h1, Bool.true_and]; simpa using h2)]
    · rw [if_neg h1, if_neg (by rw [decide_eq_false h1, Bool.false_and]; decide), ih]
/-! small numbers: all cases -/
def kB (pf b : Nat) : Int64 := ptsL (nI pf) (nI b) 6
def kE (pf b : Nat) : Int64 := ptL (nI pf ^^^ nI b)
def sbs (b s : Nat) : Bool := decide (nI s &&& (nI b ^^^ -1) = 0)
theorem kd1 : ∀ pf, pf < 64 → ∀ b, b < 16 → uF (fun s => sbs b s) (fun s => ptL (nI pf ^^^ nI s)) 16 = kB pf b := by decide +kernel
theorem kd2 : ∀ pf, pf < 64 → ∀ b, b < 16 → uF (fun s => sbs b s && !decide (s = b)) (fun s => ptL (nI pf ^^^ nI s)) 16 = kB pf b &&& (kE pf b ^^^ -1) := by decide +kernel
theorem kd3 : ∀ pf, pf < 64 → ∀ b, b < 16 → uF (fun s => sbs b s && decide (s = b)) (fun s => ptL (nI pf ^^^ nI s)) 16 = kE pf b := by decide +kernel
theorem kd4 : ∀ pf, pf < 64 → ∀ b, b < 16 → kB pf b = (kB pf b &&& (kE pf b ^^^ -1)) ||| kE pf b := by decide +kernel
/-- the TURN: inputs a, codes c and d -/
theorem kd5 : ∀ a, a < 16 → ∀ c, c < 4 → ∀ d, d < 4 → uF (fun s => decide (nI s &&& ((nI c ^^^ nI d) ^^^ -1) = 0)) (fun s => ptL (nI (a + 16 * d) ^^^ (nI s <<< ((4 : Int32) &&& 31)))) 4 = ptsL (nI (a + 16 * c)) (nI (a + 16 * c) ^^^ nI (a + 16 * d)) 6 := by decide +kernel
theorem kd6 : ∀ a, a < 16 → ∀ c, c < 4 → ∀ d, d < 4 → ptL (nI (a + 16 * c)) ||| ptsL (nI (a + 16 * c)) (nI (a + 16 * c) ^^^ nI (a + 16 * d)) 6 = ptsL (nI (a + 16 * c)) (nI (a + 16 * c) ^^^ nI (a + 16 * d)) 6 := by decide +kernel
theorem kd7 : ∀ a, a < 16 → ∀ c, c < 4 → nI a ||| (nI c <<< ((4 : Int32) &&& 31)) = nI (a + 16 * c) := by decide +kernel
theorem kd8 : ∀ a, a < 16 → ∀ c, c < 4 → ∀ b, b < 16 → (a + 16 * c) ^^^ b = (a ^^^ b) + 16 * c := by decide +kernel
/-- by an ARC: the class's sets are the reference's points -/
theorem demA_lyA {I O C : Nat → Int32} {f g a b c d : Nat} (hf : f < 6) (hg : g < 6) (ha : a < 16) (hb : b < 16) (hc : c < 4) (hd : d < 4) (eI : I f = nI a) (eJ : I g = nI a ^^^ nI b) (eC : C f = nI c) (eD : C g = nI d) {q r : Dp} (h : DpE q r) : DpE (demA I O C (nI f) (nI g) (nI b) q) (lyA I O C (nI f) (nI g) (nI b) r) := by
  have key : ∀ cc j, j < 5 → dR cc (demA I O C (nI f) (nI g) (nI b) q) j = dR cc (lyA I O C (nI f) (nI g) (nI b) r) j := by
    intro cc j hj
    have hab : a ^^^ b < 16 := xor_lt2 (k := 4) ha hb
    have pf : pointV I C (nI f) = nI (a + 16 * c) := by rw [pointV_nI hf, eI, eC, kd7 a ha c hc]
    have pg : pointV I C (nI g) = nI ((a ^^^ b) + 16 * d) := by rw [pointV_nI hg, eJ, eD, nI_xor, kd7 _ hab d hd]
    have pe : nI (a + 16 * c) ^^^ nI b = nI ((a ^^^ b) + 16 * c) := by rw [nI_xor, kd8 a ha c hc b hb]
    have ef : pickV C 6 (nI f) = nI c := by rw [pickV_nI _ hf (by decide), eC]
    have eg : pickV C 6 (nI g) = nI d := by rw [pickV_nI _ hg (by decide), eD]
    have hq : dR cc q j = dR cc r j := by cases cc; exact (h j hj).2; exact (h j hj).1
    unfold demA lyA
    rw [dW hj, dW hj, ly2_eq hj, ly1_eq hj, pf, pg, ef, eg, hq]
    have hpf : a + 16 * c < 64 := by omega
    obtain ⟨vf, hvf⟩ : ∃ vf, vf = valV O C (nI f) := ⟨_, rfl⟩
    obtain ⟨vg, hvg⟩ : ∃ vg, vg = valV O C (nI g) := ⟨_, rfl⟩
    rw [← hvf, ← hvg]
    have d1 := kd1 _ hpf b hb
    have d2 := kd2 _ hpf b hb
    have d3 := kd3 _ hpf b hb
    have d4 := kd4 _ hpf b hb
    have d5 := kd5 _ hab c hc d hd
    have d6 := kd6 _ hab c hc d hd
    have eqb : ∀ s, s < 16 → ((nI s = nI b) ↔ s = b) := fun s hs => nI_eq (by omega) (by omega)
    have eE : kE (a + 16 * c) b = ptL (nI ((a ^^^ b) + 16 * c)) := by unfold kE; rw [pe]
    rw [← eE] at d6
    have eP : ptsL (nI (a + 16 * c) ^^^ nI b) ((nI (a + 16 * c) ^^^ nI b) ^^^ nI ((a ^^^ b) + 16 * d)) 6 = ptsL (nI ((a ^^^ b) + 16 * c)) (nI ((a ^^^ b) + 16 * c) ^^^ nI ((a ^^^ b) + 16 * d)) 6 := by rw [pe]
    obtain ⟨T, hT⟩ : ∃ T, T = ptsL (nI ((a ^^^ b) + 16 * c)) (nI ((a ^^^ b) + 16 * c) ^^^ nI ((a ^^^ b) + 16 * d)) 6 := ⟨_, rfl⟩
    rw [eP, ← hT]
    rw [← hT] at d5 d6
    show (if bitZ vg j = cc then (if bitZ vf j = cc then dR cc r j ||| (kB (a + 16 * c) b &&& (kE (a + 16 * c) b ^^^ -1)) else dR cc r j) ||| T else (if bitZ vf j = cc then dR cc r j ||| (kB (a + 16 * c) b &&& (kE (a + 16 * c) b ^^^ -1)) else dR cc r j)) = _
    have eKT : kB (a + 16 * c) b ||| T = (kB (a + 16 * c) b &&& (kE (a + 16 * c) b ^^^ -1)) ||| T := by
      conv => lhs; rw [d4]
      rw [orA, d6]
    by_cases hz : bitZ vf j = cc
    · by_cases hy : bitZ vg j = cc
      · rw [if_pos hy, if_pos hz]
        rw [uF_cg (q := fun s => sbs b s) 16 (fun s hs => by
          have : bitZ (if nI s = nI b then vg else vf) j = cc := by split; exact hy; exact hz
          rw [this]; simp [sbs])]
        rw [uF_cg (q := fun s => decide (nI s &&& ((nI c ^^^ nI d) ^^^ -1) = 0)) 4 (fun s hs => by rw [hy]; simp), d1, d5, orA, orA, eKT]
      · rw [if_neg hy, if_pos hz]
        rw [uF_cg (q := fun s => sbs b s && !decide (s = b)) 16 (fun s hs => by
          by_cases e : s = b
          · subst e
            rw [if_pos rfl, decide_eq_true (rfl : s = s)]
            have : (bitZ vg j == cc) = false := by simpa using hy
            rw [this]; simp
          · rw [if_neg (fun z => e ((eqb s hs).mp z)), decide_eq_false e, hz]
            simp [sbs])]
        rw [uF_cg (q := fun _ => false) 4 (fun s hs => by
          have : (bitZ vg j == cc) = false := by simpa using hy
          rw [this, Bool.and_false]), uF_f, d2, or0]
    · by_cases hy : bitZ vg j = cc
      · rw [if_pos hy, if_neg hz]
        rw [uF_cg (q := fun s => sbs b s && decide (s = b)) 16 (fun s hs => by
          by_cases e : s = b
          · subst e
            rw [if_pos rfl, decide_eq_true (rfl : s = s), hy]
            simp [sbs]
          · rw [if_neg (fun z => e ((eqb s hs).mp z)), decide_eq_false e]
            have : (bitZ vf j == cc) = false := by simpa using hz
            rw [this, Bool.and_false, Bool.and_false])]
        rw [uF_cg (q := fun s => decide (nI s &&& ((nI c ^^^ nI d) ^^^ -1) = 0)) 4 (fun s hs => by rw [hy]; simp), d3, d5, orA, d6]
      · rw [if_neg hy, if_neg hz]
        rw [uF_cg (q := fun _ => false) 16 (fun s hs => by
          have : (bitZ (if nI s = nI b then vg else vf) j == cc) = false := by split; simpa using hy; simpa using hz
          rw [this, Bool.and_false]), uF_f]
        rw [uF_cg (q := fun _ => false) 4 (fun s hs => by
          have : (bitZ vg j == cc) = false := by simpa using hy
          rw [this, Bool.and_false]), uF_f, or0, or0]
  exact fun k hk => ⟨key true k hk, key false k hk⟩
theorem lyA_cg {S : Nat} {I O C I' O' C' : Nat → Int32} (hS : S ≤ 6) (hI : rE S I I') (hO : rE S O O') (hC : rE S C C') {f g : Nat} (hf : f < S) (hg : g < S) (b : Int32) (q : Dp) : lyA I O C (nI f) (nI g) b q = lyA I' O' C' (nI f) (nI g) b q := by
  have e1 := pointV_E hS hI hC hf
  have e2 := pointV_E hS hI hC hg
  have e3 := valV_E hS hO hC hf
  have e4 := valV_E hS hO hC hg
  have e5 : pickV C 6 (nI f) = pickV C' 6 (nI f) := by rw [pickV_nI _ (show f < 6 by omega) (by decide), pickV_nI _ (show f < 6 by omega) (by decide), hC f hf]
  have e6 : pickV C 6 (nI g) = pickV C' 6 (nI g) := by rw [pickV_nI _ (show g < 6 by omega) (by decide), pickV_nI _ (show g < 6 by omega) (by decide), hC g hg]
  have k1 : ∀ m q, lyA1 I O C (nI f) (nI g) b m q = lyA1 I' O' C' (nI f) (nI g) b m q := by
    intro m
    induction m with
    | zero => intro q; rfl
    | succ m ih => intro q; rw [lyA1, lyA1, ih, e1, e3, e4]
  have k2 : ∀ m q, lyA2 I O C (nI f) (nI g) m q = lyA2 I' O' C' (nI f) (nI g) m q := by
    intro m
    induction m with
    | zero => intro q; rfl
    | succ m ih => intro q; rw [lyA2, lyA2, ih, e2, e4, e5, e6]
  unfold lyA
  rw [k1, k2]
theorem stL_E {S : Nat} {I O C I' O' C' : Nat → Int32} (hS : S ≤ 6) (hI : rE S I I') (hO : rE S O O') (hC : rE S C C') : ∀ k, k ≤ S → ∀ q r, DpE q r → DpE (stL I O C k q) (stL I' O' C' k r) := by
  intro k
  induction k with
  | zero => intro _ q r h; exact h
  | succ k ih =>
    intro hk q r h
    rw [stL, stL]
    unfold demS
    rw [pointV_E hS hI hC (show k < S by omega), valV_E hS hO hC (show k < S by omega)]
    exact demW_E (ih (by omega) q r h) _ _
theorem zDp_E (q r : Dp) : DpE (zDp q) (zDp r) := fun k hk => by
  show zeroTo q.1 5 k = zeroTo r.1 5 k ∧ zeroTo q.2 5 k = zeroTo r.2 5 k
  unfold zeroTo
  rw [if_pos hk, if_pos hk, if_pos hk, if_pos hk]
  exact ⟨rfl, rfl⟩
theorem clL_E {f g : Nat → Dp → Dp} {A : Nat} (hfg : ∀ i, i < A → ∀ q r, DpE q r → DpE (f i q) (g i r)) : ∀ k i q r, i + k ≤ A → DpE q r → DpE (clL f k i q).1 (clL g k i r).1 ∧ (clL f k i q).2 = (clL g k i r).2 := by
  intro k
  induction k with
  | zero => intro i q r _ h; exact ⟨h, rfl⟩
  | succ k ih =>
    intro i q r hi h
    have h2 := hfg i (by omega) q r h
    rw [clL, clL, clashV_E h2]
    split
    · exact ⟨h2, rfl⟩
    · exact ih (i + 1) _ _ (by omega) h2
/-- BAD 6 as the class seeks it -/
theorem clG_eq {P : Nat → Nat → Int32} {C : Nat → Int32} {t : Tg} (he : t.2.2.2.2.1 = 0) (A : Nat) (q : Dp) : ∀ k, k ≤ A → (∃ r, clG P C k (q, t) = (r, t) ∧ clL (fun i => dmA P C t i) A 0 q = clL (fun i => dmA P C t i) (A - k) k r) ∨ ∃ r i, clG P C k (q, t) = (r, spT t 6 (nI i)) ∧ clL (fun i => dmA P C t i) A 0 q = (r, some i) := by
  intro k
  induction k with
  | zero => intro _; exact Or.inl ⟨q, rfl, rfl⟩
  | succ k ih =>
    intro hk
    rcases ih (by omega) with ⟨r, h1, h2⟩ | ⟨r, i, h1, h2⟩
    · have h2b : clL (fun i => dmA P C t i) A 0 q = if clashV (dmA P C t k r).1 (dmA P C t k r).2 = true then (dmA P C t k r, some k) else clL (fun i => dmA P C t i) (A - (k + 1)) (k + 1) (dmA P C t k r) := by
        rw [h2, show A - k = (A - (k + 1)) + 1 by omega, clL]
      have h1b : clG P C (k + 1) (q, t) = (dmA P C t k r, if clashV (dmA P C t k r).1 (dmA P C t k r).2 then spT t 6 (nI k) else t) := by
        rw [clG, h1]
        exact if_pos he
      by_cases hc : clashV (dmA P C t k r).1 (dmA P C t k r).2 = true
      · rw [if_pos hc] at h1b h2b
        exact Or.inr ⟨_, k, h1b, h2b⟩
      · rw [if_neg hc] at h1b h2b
        exact Or.inl ⟨_, h1b, h2b⟩
    · refine Or.inr ⟨r, i, ?_, h2⟩
      rw [clG, h1]
      exact if_neg (spT_ev (by decide))
theorem seekC_eq {P : Nat → Nat → Int32} {C : Nat → Int32} {S A : Nat} {q : Dp} {t : Tg} (he : t.2.2.2.2.1 = 0) : seekC P C S A q t = ((clL (fun i => dmA P C t i) A 0 (dmS C t S (zDp q))).1, match (clL (fun i => dmA P C t i) A 0 (dmS C t S (zDp q))).2 with
    | some i => spT t 6 (nI i)
    | none => t) := by
  unfold seekC
  rcases clG_eq (P := P) (C := C) he A (dmS C t S (zDp q)) A (Nat.le_refl _) with ⟨r, h1, h2⟩ | ⟨r, i, h1, h2⟩
  · rw [h1, h2, Nat.sub_self]
    rfl
  · rw [h1, h2]
theorem dmS_st {C : Nat → Int32} {t : Tg} : ∀ k q, dmS C t k q = stL t.2.1 t.2.2.1 C k q := by
  intro k
  induction k with
  | zero => intro q; rfl
  | succ k ih => intro q; rw [dmS, stL, ih]
/-- codes are codes -/
def okC (C : Nat → Int32) (S : Nat) : Prop := ∀ s, s < S → ∃ c, c < 4 ∧ C s = nI c
theorem arc_E {P Q : Nat → Nat → Int32} {A S : Nat} {I O C I' O' C' : Nat → Int32} (hS : S ≤ 6) (hPQ : PE P Q A) (hB : okB P A) (hF : fitT P A S I O) (hC : okC C S) (eI : rE S I I') (eO : rE S O O') (eC : rE S C C') {i : Nat} (hi : i < A) {q r : Dp} (h : DpE q r) : DpE (demA I O C (P i 0) (P i 1) (P i 2 ||| P i 3) q) (lyA I' O' C' (Q i 0) (Q i 1) (Q i 2 ||| Q i 3) r) := by
  rw [← hPQ i hi 0 (by decide), ← hPQ i hi 1 (by decide), ← hPQ i hi 2 (by decide), ← hPQ i hi 3 (by decide)]
  obtain ⟨f, g, hf, hg, ef, eg, e1, -⟩ := hF.2 i hi
  obtain ⟨⟨b, hb, eb⟩, -⟩ := hB i hi
  obtain ⟨⟨a, ha, ea⟩, -⟩ := hF.1 f hf
  obtain ⟨c, hc, ec⟩ := hC f hf
  obtain ⟨d, hd, ed⟩ := hC g hg
  rw [ef, eg, eb]
  rw [← lyA_cg hS eI eO eC hf hg]
  exact demA_lyA (by omega) (by omega) ha hb hc hd ea (by rw [e1, ea, eb]) ec ed h
theorem clA_E {P Q : Nat → Nat → Int32} {A S : Nat} {I O C I' O' C' : Nat → Int32} (hS : S ≤ 6) (hPQ : PE P Q A) (hB : okB P A) (hF : fitT P A S I O) (hC : okC C S) (eI : rE S I I') (eO : rE S O O') (eC : rE S C C') (q r : Dp) : DpE (clL (fun i => demA I O C (P i 0) (P i 1) (P i 2 ||| P i 3)) A 0 (stL I O C S (zDp q))).1 (clA I' O' C' Q S A r).1 ∧ (clL (fun i => demA I O C (P i 0) (P i 1) (P i 2 ||| P i 3)) A 0 (stL I O C S (zDp q))).2 = (clA I' O' C' Q S A r).2 :=
  clL_E (A := A) (fun i hi q r h => arc_E hS hPQ hB hF hC eI eO eC hi h) A 0 _ _ (by omega) (stL_E hS eI eO eC S (Nat.le_refl _) _ _ (zDp_E q r))
def ev4 (t : Tg) : Prop := t.2.2.2.2.1 = 0 ∨ t.2.2.2.2.1 = 1 ∨ t.2.2.2.2.1 = 2 ∨ t.2.2.2.2.1 = 3 ∨ t.2.2.2.2.1 = 4
theorem ev4_sp {t : Tg} {w p : Int32} (hw : w = 1 ∨ w = 2 ∨ w = 3 ∨ w = 4) (h : ev4 t) : ev4 (spT t w p) := by
  unfold spT
  split
  · exact Or.inr hw
  · exact h
theorem ev4_fol {P : Nat → Nat → Int32} (x : Nat) (t : Tg) (h : ev4 t) : ev4 (folT P x t) := by
  unfold folT
  dsimp only
  split
  · split
    · split
      · exact h
      · exact ev4_sp (Or.inr (Or.inl rfl)) h
    · unfold stT
      split <;> exact h
  · exact ev4_sp (Or.inl rfl) h
theorem ev4_go {P : Nat → Nat → Int32} {A : Nat} : ∀ k t, ev4 t → ev4 (goT P A k t) := by
  intro k
  induction k with
  | zero => intro t h; exact h
  | succ k ih =>
    intro t h
    rw [goT]
    split
    · split
      · exact ih _ (ev4_fol _ _ h)
      · exact h
    · exact h
theorem ev4_vl : ∀ k t, ev4 t → ev4 (vlT k t) := by
  intro k
  induction k with
  | zero => intro t h; exact h
  | succ k ih =>
    intro t h
    rw [vlT]
    split
    · exact ih t h
    · exact ev4_sp (Or.inr (Or.inr (Or.inl rfl))) (ih t h)
theorem ev4_in1 {P : Nat → Nat → Int32} {i : Nat} : ∀ k t, ev4 t → ev4 (inT1 P i k t) := by
  intro k
  induction k with
  | zero => intro t h; exact h
  | succ k ih =>
    intro t h
    rw [inT1]
    split
    · exact ev4_sp (Or.inr (Or.inr (Or.inr rfl))) (ih t h)
    · exact ih t h
theorem ev4_in {P : Nat → Nat → Int32} {A : Nat} : ∀ k t, ev4 t → ev4 (inT P A k t) := by
  intro k
  induction k with
  | zero => intro t h; exact h
  | succ k ih => intro t h; exact ev4_in1 A _ (ih t h)
theorem ev4_cnd {t : Tg} {f : Tg → Tg} (h : ev4 t) (hf : ev4 (f t)) : ev4 (cnd t f) := by
  unfold cnd
  split
  · exact hf
  · exact h
theorem cnd_z {t : Tg} {f : Tg → Tg} (h : (cnd t f).2.2.2.2.1 = 0) : t.2.2.2.2.1 = 0 ∧ cnd t f = f t := by
  by_cases h1 : t.2.2.2.2.1 = 0
  · exact ⟨h1, cnd_pos h1⟩
  · rw [cnd_neg h1] at h; exact absurd h h1
theorem vlT_id : ∀ k t, (vlT k t).2.2.2.2.1 = 0 → vlT k t = t := by
  intro k
  induction k with
  | zero => intro t _; rfl
  | succ k ih =>
    intro t h
    rw [vlT] at h ⊢
    split at h
    · rename_i hv
      rw [if_pos hv]
      exact ih t h
    · exact absurd h (spT_ev (by decide))
/-- all looks agree -/
theorem look_E {P Q : Nat → Nat → Int32} {A S b bi bo : Nat} {C C' : Nat → Int32} (hA : A ≤ 8) (hS : S ≤ 6) (hPQ : PE P Q A) (hP : okA P A S) (hB : okB P A) (hb : b < 6) (hbi : bi < 16) (hbo : bo < 8) (hC : okC C S) (eC : rE S C C') (q r : Dp) (t u : Tg) {z z' : Dp × Tg} (hz : z = lkD P C S A (nI b) (nI bi) (nI bo) q t) (hz' : z' = lkR Q C' S A (nI b) (nI bi) (nI bo) r u) : tgE z.2 z'.2 ∧ (z.2.2.2.2.2.1 = 0 → DpE z.1 z'.1) ∧ (z.2.2.2.2.2.1 = 0 ∨ ¬ ev4 z.2 → (∀ s, s < S → ¬ z.2.1 s = 0) ∧ fitT P A S z.2.2.1 z.2.2.2.1) ∧ (ev4 z.2 ∨ z.2.2.2.2.2.1 = 5 ∨ z.2.2.2.2.2.1 = 6) ∧ (z.2.2.2.2.2.1 = 0 → unlO z.2.2.1 z.2.2.2.1 C S = none ∧ z.1 = (clL (fun i => demA z.2.2.1 z.2.2.2.1 C (P i 0) (P i 1) (P i 2 ||| P i 3)) A 0 (stL z.2.2.1 z.2.2.2.1 C S (zDp q))).1 ∧ (clL (fun i => demA z.2.2.1 z.2.2.2.1 C (P i 0) (P i 1) (P i 2 ||| P i 3)) A 0 (stL z.2.2.1 z.2.2.2.1 C S (zDp q))).2 = none) := by
  obtain ⟨t1, ht1⟩ : ∃ t1, t1 = goA P A (nI b) (nI bi) (nI bo) (t.1, t.2.1, t.2.2.1, t.2.2.2.1, 0, -2) := ⟨_, rfl⟩
  obtain ⟨u1, hu1⟩ : ∃ u1, u1 = goA Q A (nI b) (nI bi) (nI bo) (u.1, u.2.1, u.2.2.1, u.2.2.2.1, 0, -2) := ⟨_, rfl⟩
  have E1 : tgE t1 u1 := by rw [ht1, hu1]; exact goA_E hA hPQ _ _ _ _ _ _ _
  obtain ⟨t3, ht3⟩ : ∃ t3, t3 = cnd (cnd t1 (vlT S)) (inT P A A) := ⟨_, rfl⟩
  obtain ⟨u3, hu3⟩ : ∃ u3, u3 = cnd (cnd u1 (vlT S)) (inT Q A A) := ⟨_, rfl⟩
  have E2 : tgE (cnd t1 (vlT S)) (cnd u1 (vlT S)) := cnd_E E1 (vlT_E S _ _ E1)
  have E3 : tgE t3 u3 := by rw [ht3, hu3]; exact cnd_E E2 (inT_E hPQ A (Nat.le_refl _) _ _ E2)
  have v1 : ev4 t1 := by
    rw [ht1]
    refine ev4_go A _ ?_
    unfold stT
    split <;> exact Or.inl rfl
  have v2 : ev4 (cnd t1 (vlT S)) := ev4_cnd v1 (ev4_vl S _ v1)
  have v3 : ev4 t3 := by rw [ht3]; exact ev4_cnd v2 (ev4_in A _ v2)
  have hzD : z = if (cnd t3 (twT C S)).2.2.2.2.1 = 0 then seekC P C S A q (cnd t3 (twT C S)) else (q, cnd t3 (twT C S)) := by rw [hz, ht3, ht1]; rfl
  have hzR : z' = if u3.2.2.2.2.1 = 0 then lcT C' Q S A r u3 else (r, u3) := by rw [hz', hu3, hu1]; rfl
  have hev : u3.2.2.2.2 = t3.2.2.2.2 := E3.2.2.2.symm
  clear hz hz'
  by_cases h3 : t3.2.2.2.2.1 = 0
  · obtain ⟨h2, e3⟩ := cnd_z (ht3 ▸ h3)
    obtain ⟨h1, e2⟩ := cnd_z h2
    have e3b : t3 = cnd t1 (vlT S) := by
      have : (inT P A A (cnd t1 (vlT S))).2.2.2.2.1 = 0 := by rw [← e3, ← ht3]; exact h3
      rw [ht3, e3]
      exact inT_0 _ _ this
    have hv2 : (vlT S t1).2.2.2.2.1 = 0 := by rw [← e2]; exact h2
    have e2b : t3 = t1 := by rw [e3b, e2]; exact vlT_id _ _ hv2
    have hval : ∀ s, s < S → ¬ t3.1 s = 0 := by rw [e2b]; exact (vlT_0 S t1 hS hv2).2
    have hfit : fitT P A S t3.2.1 t3.2.2.1 := by
      rw [e2b, ht1]
      exact goA_fit hA hS hP hB hb hbi hbo rfl (by rw [← ht1]; exact h1) (by rw [← ht1, ← e2b]; exact hval)
    have eI : rE S t3.2.1 u3.2.1 := fun s hs => (E3.2.1 s (by omega) (hval s hs)).1
    have eO : rE S t3.2.2.1 u3.2.2.1 := fun s hs => (E3.2.1 s (by omega) (hval s hs)).2
    have hu : unlO t3.2.1 t3.2.2.1 C S = unlO u3.2.1 u3.2.2.1 C' S := unlO_E hS eI eO eC
    rw [if_pos (by rw [hev]; exact h3)] at hzR
    rw [cnd_pos h3, twT_eq S t3 hS h3, hu] at hzD
    unfold lcT at hzR
    cases hun : unlO u3.2.1 u3.2.2.1 C' S with
    | some s =>
      rw [hun] at hzD hzR
      dsimp only at hzD hzR
      rw [if_neg (spT_ev (by decide))] at hzD
      have e5 : (spT t3 5 (nI s)).2.2.2.2.1 = 5 := by unfold spT; rw [if_pos h3]
      obtain ⟨r1, r2, r3, -⟩ := rwE_sp t3 5 (nI s)
      rw [hzD, hzR]
      refine ⟨spT_E E3 _ _, fun z => absurd z (spT_ev (by decide)), fun _ => ?_, Or.inr (Or.inl e5), fun z => absurd z (spT_ev (by decide))⟩
      show (∀ s', s' < S → ¬ (spT t3 5 (nI s)).1 s' = 0) ∧ fitT P A S (spT t3 5 (nI s)).2.1 (spT t3 5 (nI s)).2.2.1
      rw [r1, r2, r3]
      exact ⟨hval, hfit⟩
    | none =>
      rw [hun] at hzD hzR
      dsimp only at hzD hzR
      rw [if_pos h3, seekC_eq h3, dmS_st] at hzD
      obtain ⟨c1, c2⟩ := clA_E (O := t3.2.2.1) (O' := u3.2.2.1) hS hPQ hB hfit hC eI eO eC q r
      obtain ⟨L, hL⟩ : ∃ L, L = clL (fun i => dmA P C t3 i) A 0 (stL t3.2.1 t3.2.2.1 C S (zDp q)) := ⟨_, rfl⟩
      obtain ⟨L', hL'⟩ : ∃ L', L' = clA u3.2.1 u3.2.2.1 C' Q S A r := ⟨_, rfl⟩
      have c1 : DpE L.1 L'.1 := by rw [hL, hL']; exact c1
      have c2 : L.2 = L'.2 := by rw [hL, hL']; exact c2
      rw [← hL] at hzD
      rw [← hL'] at hzR
      rw [c2] at hzD
      cases hc : L'.2 with
      | some i =>
        rw [hc] at hzD hzR
        dsimp only at hzD hzR
        have e5 : (spT t3 6 (nI i)).2.2.2.2.1 = 6 := by unfold spT; rw [if_pos h3]
        obtain ⟨r1, r2, r3, -⟩ := rwE_sp t3 6 (nI i)
        rw [hzD, hzR]
        refine ⟨spT_E E3 _ _, fun z => absurd z (spT_ev (by decide)), fun _ => ?_, Or.inr (Or.inr e5), fun z => absurd z (spT_ev (by decide))⟩
        show (∀ s', s' < S → ¬ (spT t3 6 (nI i)).1 s' = 0) ∧ fitT P A S (spT t3 6 (nI i)).2.1 (spT t3 6 (nI i)).2.2.1
        rw [r1, r2, r3]
        exact ⟨hval, hfit⟩
      | none =>
        rw [hc] at hzD hzR
        dsimp only at hzD hzR
        rw [hzD, hzR]
        exact ⟨E3, fun _ => c1, fun _ => ⟨hval, hfit⟩, Or.inl v3, fun _ => ⟨hu.trans hun, by rw [hL]; rfl, by rw [show (clL (fun i => demA t3.2.1 t3.2.2.1 C (P i 0) (P i 1) (P i 2 ||| P i 3)) A 0 (stL t3.2.1 t3.2.2.1 C S (zDp q))).2 = L.2 by rw [hL]; rfl, c2]; exact hc⟩⟩
  · rw [if_neg (by rw [hev]; exact h3)] at hzR
    rw [cnd_neg h3, if_neg h3] at hzD
    rw [hzD, hzR]
    exact ⟨E3, fun z => absurd z h3, fun z => z.elim (fun y => absurd y h3) (fun y => absurd v3 y), Or.inl v3, fun z => absurd z h3⟩

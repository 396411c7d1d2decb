/-! class and reference agree: points, runs, HARM, THE WALK, THE TAPE -/
theorem mn_eq (p : Int64) : ∀ k, k ≤ 64 → mnV p k = nI (owy (gb p) k) := by
  intro k
  induction k with
  | zero => intro _; rfl
  | succ k ih =>
    intro hk
    rw [mnV, ih (by omega), hasL_gb p (by omega), owy]
    cases gb p k
    · show nI _ + 0 = _
      rw [if_neg Bool.false_ne_true]
      exact Int32.add_zero _
    · show nI _ + 1 = _
      rw [if_pos rfl]
      exact nI_1 _
theorem mn_pop (p : Int64) : mnV p 64 = popF p := by rw [mn_eq p 64 (Nat.le_refl _), pop_eq]; rfl
theorem owy_dis {f g : Nat → Bool} : ∀ n, (∀ k, k < n → ¬ (f k = true ∧ g k = true)) → owy (fun k => f k || g k) n = owy f n + owy g n := by
  intro n
  induction n with
  | zero => intro _; rfl
  | succ n ih =>
    intro h
    have := ih (fun k hk => h k (by omega))
    have hn := h n (Nat.lt_succ_self n)
    rw [owy, owy, owy, this]
    cases h1 : f n <;> cases h2 : g n
    · simp
    · simp; omega
    · simp; omega
    · exact absurd ⟨h1, h2⟩ hn
theorem pop_dis {z o : Int64} (h : z &&& o = 0) : popF z + popF o = mnV (o ||| z) 64 := by
  rw [pop_eq, pop_eq, mn_eq _ 64 (Nat.le_refl _), nI_add]
  congr 1
  have e : owy (gb (o ||| z)) 64 = owy (fun k => gb o k || gb z k) 64 := owy_cg 64 (fun i _ => gb_or o z i)
  rw [e, owy_dis 64 (fun k hk q => by
    have := gb_eq0.mp h k hk
    rw [gb_and, q.1, q.2] at this
    cases this)]
  unfold pcL
  omega
theorem bitA_gb {z : Int64} {k : Nat} (hk : k < 64) : bitA z (nI k) = gb z k := by
  unfold bitA
  obtain ⟨n, hn, rfl⟩ := wb_of z
  rw [wb_shr hn hk]
  have hs : n / 2 ^ k < 2 ^ 64 := Nat.lt_of_le_of_lt (Nat.div_le_self _ _) hn
  have e1 : lN (n / 2 ^ k) &&& 1 = lN (n / 2 ^ k % 2) := by
    rw [show (1 : Int64) = lN 1 from rfl, wb_and hs (by decide), Nat.and_one_is_mod]
  have e2 : gb (lN n) k = n.testBit k := by unfold gb; rw [wb_tb, BitVec.getLsbD_ofNat, decide_eq_true hk, Bool.true_and]
  rw [e1, e2, Nat.testBit_eq_decide_div_mod_eq]
  rcases Nat.mod_two_eq_zero_or_one (n / 2 ^ k) with z | z
  · rw [z]; decide
  · rw [z]; decide
/-! runs -/
theorem rg_eq {MI : Mi} {ML : Nat → Nat → Int64} (t1 : tabOK (ML 58)) {x : Int32} {d : Nat} (hd : d < 729) : ∀ k, (∀ g, g < k → MI 12 g = MI 128 (56 + 2 * g) ∧ MI 13 g = nI (gcN MI g) ∧ gcN MI g < 729) → rgV MI ML x (ML 58 d) k = nI (rgS MI x d k) ∧ rgS MI x d k ≤ 2 := by
  intro k
  induction k with
  | zero => intro _; exact ⟨rfl, Nat.zero_le _⟩
  | succ k ih =>
    intro h
    obtain ⟨i1, i2⟩ := ih (fun g hg => h g (by omega))
    obtain ⟨h1, h2, h3⟩ := h k (Nat.lt_succ_self k)
    rw [rgV, rgS, i1, h1, h2, ptsV_nI h3, prod_eq t1 h3 hd, str_eq i2 (pdS_le _ _ _)]
    split
    · exact ⟨rfl, eiN_le i2 (pdS_le _ _ _)⟩
    · exact ⟨rfl, i2⟩
theorem rv_eq {B : Nat → Int64} (t1 : tabOK B) {c : Nat → Int64} {cc : Nat → Nat} {d : Nat} (hd : d < 729) : ∀ k, (∀ i, i < k → cc i < 729 ∧ c i = B (cc i)) → runV c (B d) k = nI (rcS cc d k) ∧ rcS cc d k ≤ 2 := by
  intro k
  induction k with
  | zero => intro _; exact ⟨rfl, Nat.zero_le _⟩
  | succ k ih =>
    intro h
    obtain ⟨i1, i2⟩ := ih (fun g hg => h g (by omega))
    obtain ⟨h1, h2⟩ := h k (Nat.lt_succ_self k)
    rw [runV, rcS, i1, h2, prod_eq t1 h1 hd, str_eq i2 (pdS_le _ _ _)]
    exact ⟨rfl, eiN_le i2 (pdS_le _ _ _)⟩
theorem rc_01 {cc : Nat → Nat} {d : Nat} (h : ∀ k, k < 6 → dgt d k < 2) : ∀ k, rcS cc d k = 0 ∨ rcS cc d k = 1 := by
  intro k
  induction k with
  | zero => exact Or.inl rfl
  | succ k ih => exact eiN_01 ih (pdS_pt h)
theorem vl_eq {B : Nat → Int64} (t1 : tabOK B) {c : Nat → Int64} {cc : Nat → Nat} {k p : Nat} (hp : p < 64) (h : ∀ i, i < k → cc i < 729 ∧ c i = B (cc i)) : (if runV c (ptL (nI p)) k = 1 then (1 : Int32) else 0) = nI (rcS cc (numC (nI p) 0 6).toNatClampNeg k) := by
  obtain ⟨m, hm, he⟩ := numC_in (nI p) 0
  have hk2 := kp2 p hp
  rw [ptL_tab t1 hp]
  rw [he, nI_clamp (by omega)] at hk2 ⊢
  rw [(rv_eq t1 hm k h).1]
  rcases rc_01 hk2 k (cc := cc) with z | z
  · rw [z]; decide
  · rw [z]; decide
/-! HARM -/
theorem or2 (x : Int32) : (x ||| 2) ||| 2 = x ||| 2 := by rw [Int32.or_assoc]; rfl
theorem hmN_eq {V : Mi} {B : Nat → Nat → Int64} {f g : Nat} {L : List Int32} {h : Int32} : ∀ k, hmN V B f g L h k = if (List.range k).all (fun i => (List.range g).any (lgP V B (nI f) (L.getD i 0).toNatClampNeg)) = true then h else h ||| 2 := by
  intro k
  induction k with
  | zero => rfl
  | succ k ih =>
    rw [hmN, ih, List.range_succ, List.all_append]
    cases h1 : (List.range k).all (fun i => (List.range g).any (lgP V B (nI f) (L.getD i 0).toNatClampNeg)) <;> cases h2 : (List.range g).any (lgP V B (nI f) (L.getD k 0).toNatClampNeg)
    · simp only [List.all_cons, List.all_nil, h2, Bool.and_true, Bool.false_and, Bool.false_eq_true, if_false]; exact or2 h
    · simp only [List.all_cons, List.all_nil, h2, Bool.and_true, Bool.false_and, Bool.false_eq_true, if_false, if_true]
    · simp only [List.all_cons, List.all_nil, h2, Bool.and_false, Bool.true_and, Bool.false_eq_true, if_false, if_true, Bool.and_true]
    · simp only [List.all_cons, List.all_nil, h2, Bool.true_and, if_true, Bool.and_true]
theorem all_getD {α : Type} (L : List α) (d : α) (h : α → Bool) : (List.range L.length).all (fun i => h (L.getD i d)) = L.all h := by
  have := any_getD L d (fun x => !h x)
  rw [List.all_eq_not_any_not, List.all_eq_not_any_not, ← this]
theorem all_add {h : Int32 → Bool} : ∀ (xs L : List Int32), (addAll L xs).all h = (L.all h && xs.all h) := by
  intro xs
  induction xs with
  | nil => intro L; show L.all h = _; simp
  | cons x xs ih =>
    intro L
    show (addAll (addL L x) xs).all h = _
    rw [ih]
    unfold addL
    split
    · rename_i hm
      rw [List.all_cons]
      cases h1 : L.all h
      · simp
      · have := List.all_eq_true.mp h1 x hm
        rw [this]; simp
    · rw [List.all_append, List.all_cons, List.all_cons, List.all_nil, Bool.and_true, Bool.and_assoc]
theorem harm_eq {MI : Mi} {ML : Nat → Nat → Int64} {A S b f i Gn : Nat} (h : lnk MI A S b) (hf5 : f < 5) (hi : i < A) (t1 : tabOK (ML 58)) (t2 : tabOK (ML 125)) (hz : ML 49 f = ML 138 f) (hg : ∀ g, g < Gn → MI 12 g = MI 128 (56 + 2 * g) ∧ MI 13 g = nI (gcN MI g) ∧ gcN MI g < 729) : hmV MI ML Gn f i = hmR MI ML f Gn i := by
  have ht : ∀ c, c < 729 → ML 58 c = ML 125 c := fun c hc => tab_eq t1 t2 hc
  obtain ⟨d1, d2, d3, d4, d5⟩ := lnk_dsc h hi
  obtain ⟨mb, hmb, emb⟩ := bc_lt MI i
  obtain ⟨mt, hmt, emt⟩ := tc_lt MI i
  obtain ⟨f', g', a, bb, cc, d, o, p, hf, hg', ha, hb, hcc, hd, ho, hp, e1, e2, e3, e4, e5, e6, e7, e8, e9, e10, e11, e12, e13, e14, e15, e16⟩ := lnk_arc h hi
  have ept : pointV (MI 135) (MI 128) (arR MI i 0) = nI (a + 16 * cc) := by rw [e3, e8]
  have hS : ∀ k, k ≤ Gn → hmS MI ML (nI f) (ptsV ML (MI 51 i)) (ptsV ML (MI 51 i) ||| ptsV ML (MI 52 i)) (ptL (MI 53 i)) (ML 49 f) (fallV (MI 54) (MI 55) (nI f) (nI i)) k = hmG MI ML f i k := by
    intro k
    induction k with
    | zero => intro _; rfl
    | succ k ih =>
      intro hk
      obtain ⟨h1, h2, h3⟩ := hg k (by omega)
      rw [hmS, hmG, ih (by omega), h1, h2, ptsV_nI h3, d1, d2, d3, emb, emt, ptsV_nI hmb, ptsV_nI hmt, ht _ h3, ht _ hmb, ht _ hmt, fall_eq h hf5 hi, hz, ept]
      dsimp only
      unfold hg2 hg1 hzR ctR
      rw [emb, emt, nI_clamp (show mb < 2 ^ 31 by omega), nI_clamp (show mt < 2 ^ 31 by omega), ept, hasL_gb _ (show a + 16 * cc < 64 by omega), Int64.and_assoc]
      have hpt := and_pt (p := ML 125 (gcN MI k)) (show a + 16 * cc < 64 by omega)
      have ec : (flR MI (nI f) i = true ∧ ¬ ML 125 (gcN MI k) &&& ML 125 mb = 0 ∧ ML 125 (gcN MI k) &&& ptL (nI (a + 16 * cc)) = 0) ↔ (flR MI (nI f) i = true ∧ (decide (¬ ML 125 (gcN MI k) &&& ML 125 mb = 0) && !gb (ML 125 (gcN MI k)) (a + 16 * cc)) = true) := by
        rw [hpt, Bool.and_eq_true, decide_eq_true_eq, Bool.not_eq_true']
      by_cases z : MI 128 (56 + 2 * k) = nI f
      · rw [if_pos z, if_pos z]
        by_cases y : flR MI (nI f) i = true ∧ ¬ ML 125 (gcN MI k) &&& ML 125 mb = 0 ∧ ML 125 (gcN MI k) &&& ptL (nI (a + 16 * cc)) = 0
        · rw [if_pos y, if_pos (ec.mp y)]
        · rw [if_neg y, if_neg (fun x => y (ec.mpr x))]
      · rw [if_neg z, if_neg z]
  have hA : hdA MI ML (nI f) Gn (frMI MI (nI i) (nI f)) = (List.range (addAll [] (nqA MI (nI f) i)).length).all (fun k => (List.range Gn).any (lgP MI ML (nI f) ((addAll [] (nqA MI (nI f) i)).getD k 0).toNatClampNeg)) := by
    rw [all_getD (addAll [] (nqA MI (nI f) i)) 0 (fun c => (List.range Gn).any (lgP MI ML (nI f) c.toNatClampNeg)), all_add, List.all_nil, Bool.true_and, fr_nq h hi hf5]
    unfold hdA
    have hin := nqA_in MI (nI f) i
    have key : ∀ L : List Int32, (∀ y, y ∈ L → ∃ m, m < 729 ∧ y = nI m) → L.all (fun c => gtP MI ML (nI f) (ptsV ML c) Gn) = L.all (fun c => (List.range Gn).any (lgP MI ML (nI f) c.toNatClampNeg)) := by
      intro L
      induction L with
      | nil => intro _; rfl
      | cons c L ih =>
        intro hL
        rw [List.all_cons, List.all_cons, ih (fun y hy => hL y (List.mem_cons_of_mem _ hy))]
        congr 1
        obtain ⟨m, hm, rfl⟩ := hL c List.mem_cons_self
        unfold gtP
        refine any_cg Gn (fun g hgg => ?_)
        obtain ⟨h1, h2, h3⟩ := hg g hgg
        unfold lgP
        rw [h1, h2, ptsV_nI h3, ptsV_nI hm, ht m hm, ht _ h3, nI_clamp (show m < 2 ^ 31 by omega)]
    exact key _ hin
  unfold hmV hmR
  dsimp only
  rw [hmN_eq, ← hA, hS Gn (Nat.le_refl _)]
/-! THE WALK -/
theorem self_n (x : Int32) : x &&& (x ^^^ -1) = 0 := by
  apply Int32.toBitVec_inj.mp
  show x.toBitVec &&& (x.toBitVec ^^^ (-1 : Int32).toBitVec) = 0#32
  rw [show (-1 : Int32).toBitVec = BitVec.allOnes 32 by decide]
  apply BitVec.eq_of_getLsbD_eq
  intro j hj
  rw [BitVec.getLsbD_and, BitVec.getLsbD_xor, BitVec.getLsbD_allOnes, decide_eq_true hj, BitVec.getLsbD_zero]
  cases x.toBitVec.getLsbD j <;> rfl
theorem arB_gen {e u : Nat → Bool} (heu : ∀ i, e i = true → u i = true) {B : Nat → Nat → Int32 → Int32} (h0 : ∀ i fd, B 0 i fd = fd) (hs : ∀ k i fd, B (k + 1) i fd = if u i = true then (if e i = true then nI i else B k (i + 1) (-2)) else B k (i + 1) fd) : ∀ k i fd, B k i fd = match (List.range k).find? (fun j => e (i + j)) with
    | some j => nI (i + j)
    | none => if (List.range k).any (fun j => u (i + j)) = true then -2 else fd := by
  intro k
  induction k with
  | zero => intro i fd; rw [h0]; rfl
  | succ k ih =>
    intro i fd
    have eF : (List.range (k + 1)).find? (fun j => e (i + j)) = if e i = true then some 0 else ((List.range k).find? (fun j => e (i + 1 + j))).map (fun j => j + 1) := by
      rw [List.range_succ_eq_map, List.find?_cons, Nat.add_zero]
      cases e i
      · rw [if_neg Bool.false_ne_true, List.find?_map]
        show Option.map Nat.succ (List.find? (fun j => e (i + (j + 1))) (List.range k)) = Option.map (fun j => j + 1) (List.find? (fun j => e (i + 1 + j)) (List.range k))
        rw [show (fun j => e (i + (j + 1))) = fun j => e (i + 1 + j) from funext fun j => by rw [show i + (j + 1) = i + 1 + j by omega]]
      · rfl
    have eA : (List.range (k + 1)).any (fun j => u (i + j)) = (u i || (List.range k).any (fun j => u (i + 1 + j))) := by
      rw [List.range_succ_eq_map, List.any_cons, List.any_map, Nat.add_zero]
      congr 2
      funext j
      show u (i + (j + 1)) = u (i + 1 + j)
      congr 1
      omega
    rw [hs, eF, eA, ih (i + 1) (-2), ih (i + 1) fd]
    cases hu : u i
    · have he : e i = false := Bool.eq_false_iff.mpr (fun z => by rw [heu i z] at hu; cases hu)
      rw [he, if_neg Bool.false_ne_true, if_neg Bool.false_ne_true, Bool.false_or]
      cases (List.range k).find? (fun j => e (i + 1 + j)) with
      | none => rfl
      | some j => show nI (i + 1 + j) = nI (i + (j + 1)); congr 1; omega
    · rw [if_pos rfl, Bool.true_or]
      cases he : e i
      · rw [if_neg Bool.false_ne_true, if_neg Bool.false_ne_true]
        cases (List.range k).find? (fun j => e (i + 1 + j)) with
        | none => simp only [Option.map_none, if_true]; split <;> rfl
        | some j => show nI (i + 1 + j) = nI (i + (j + 1)); congr 1; omega
      · rw [if_pos rfl, if_pos rfl]
        rfl
theorem arB_eq {P : Nat → Nat → Int32} {w set : Int32} : ∀ k i fd, arB P w set k i fd = match (List.range k).find? (fun j => decide (P (i + j) 0 = w) && decide (buP P (i + j) = set)) with
    | some j => nI (i + j)
    | none => if (List.range k).any (fun j => decide (P (i + j) 0 = w) && decide (set &&& (buP P (i + j) ^^^ -1) = 0)) = true then -2 else fd := by
  refine arB_gen (e := fun i => decide (P i 0 = w) && decide (buP P i = set)) (u := fun i => decide (P i 0 = w) && decide (set &&& (buP P i ^^^ -1) = 0)) (fun i h => ?_) (fun _ _ => rfl) (fun k i fd => ?_)
  · rw [Bool.and_eq_true, decide_eq_true_eq, decide_eq_true_eq] at h ⊢
    refine ⟨h.1, ?_⟩
    rw [h.2]
    exact self_n set
  · rw [arB]
    by_cases h1 : P i 0 = w ∧ set &&& (buP P i ^^^ -1) = 0
    · have c1 : (decide (P i 0 = w) && decide (set &&& (buP P i ^^^ -1) = 0)) = true := by rw [decide_eq_true h1.1, decide_eq_true h1.2]; rfl
      rw [if_pos h1, if_pos c1]
      by_cases h2 : buP P i = set
      · have c2 : (decide (P i 0 = w) && decide (buP P i = set)) = true := by rw [decide_eq_true h1.1, decide_eq_true h2]; rfl
        rw [if_pos h2, if_pos c2]
      · have c2 : ¬ (decide (P i 0 = w) && decide (buP P i = set)) = true := by rw [decide_eq_false h2, Bool.and_false]; exact Bool.false_ne_true
        rw [if_neg h2, if_neg c2]
    · have c1 : ¬ (decide (P i 0 = w) && decide (set &&& (buP P i ^^^ -1) = 0)) = true := fun z => by
        rw [Bool.and_eq_true, decide_eq_true_eq, decide_eq_true_eq] at z
        exact h1 z
      rw [if_neg h1, if_neg c1]
theorem push_eq {P Q : Nat → Nat → Int32} {A : Nat} {w set : Int32} (hPQ : PE P Q A) : arB Q w set A 0 (-1) = match wkF P w set A with
    | some j => nI j
    | none => if wkP P w set A = true then -2 else -1 := by
  have bu : ∀ i, i < A → buP P i = buP Q i := fun i hi => by unfold buP; rw [hPQ i hi 2 (by decide), hPQ i hi 3 (by decide)]
  have e1 : wkF P w set A = (List.range A).find? (fun j => decide (Q (0 + j) 0 = w) && decide (buP Q (0 + j) = set)) := find_cg A (fun i hi => by rw [Nat.zero_add, hPQ i hi 0 (by decide), bu i hi])
  have e2 : wkP P w set A = (List.range A).any (fun j => decide (Q (0 + j) 0 = w) && decide (set &&& (buP Q (0 + j) ^^^ -1) = 0)) := any_cg A (fun i hi => by rw [Nat.zero_add, hPQ i hi 0 (by decide), bu i hi])
  rw [arB_eq, ← e1, ← e2]
  cases wkF P w set A with
  | none => rfl
  | some j => show nI (0 + j) = nI j; rw [Nat.zero_add]
/-! THE TAPE -/
theorem sh8 (x : Int32) {k : Nat} (hk : k < 4) : (x.toUInt32 >>> ((24 - 8 * nI k : Int32).toUInt32 &&& Int32.toUInt32 31)).toInt32.toInt8 = (x >>> ((24 - 8 * nI k : Int32) &&& 31)).toInt8 := by
  have e1 : ∀ k, k < 4 → (((24 - 8 * nI k : Int32).toUInt32 &&& Int32.toUInt32 31).toBitVec % 32).toNat = 24 - 8 * k := by decide +kernel
  have e2 : ∀ k, k < 4 → (((24 - 8 * nI k : Int32) &&& 31).toBitVec.smod 32).toNat = 24 - 8 * k := by decide +kernel
  apply Int8.toBitVec_inj.mp
  show (x.toBitVec >>> (((24 - 8 * nI k : Int32).toUInt32 &&& Int32.toUInt32 31).toBitVec % 32)).signExtend 8 = (x.toBitVec.sshiftRight' (((24 - 8 * nI k : Int32) &&& 31).toBitVec.smod 32)).signExtend 8
  rw [BitVec.signExtend_eq_setWidth_of_le _ (by decide), BitVec.signExtend_eq_setWidth_of_le _ (by decide), BitVec.ushiftRight_eq', BitVec.sshiftRight_eq', e1 k hk, e2 k hk]
  apply BitVec.eq_of_getLsbD_eq
  intro j hj
  rw [BitVec.getLsbD_setWidth, BitVec.getLsbD_setWidth, BitVec.getLsbD_ushiftRight, BitVec.getLsbD_sshiftRight]
  have h1 : 24 - 8 * k + j < 32 := by omega
  simp [hj, h1]
  omega
theorem pb_rb (x : Int32) {k : Nat} (hk : k < 4) : pbV x k = rbV x k := by
  unfold pbV rbV shV
  rw [sh8 x hk]
theorem nar8 : ∀ n, n < 256 → (Int8.ofNat n).toInt32 = byI n ∧ vp_nar .byte (byI n) = byI n := by decide +kernel
theorem rb_by (x : Int32) (k : Nat) : ∃ n, n < 256 ∧ rbV x k = byI n := by
  obtain ⟨z, hz⟩ : ∃ z : Int8, z = (x >>> ((24 - 8 * nI k : Int32) &&& 31)).toInt8 := ⟨_, rfl⟩
  refine ⟨z.toBitVec.toNat, z.toBitVec.isLt, ?_⟩
  have e : z = Int8.ofNat z.toBitVec.toNat := Int8.toBitVec_inj.mp (by show z.toBitVec = BitVec.ofNat 8 z.toBitVec.toNat; simp)
  obtain ⟨n1, n2⟩ := nar8 _ z.toBitVec.isLt
  unfold rbV
  rw [← hz]
  rw [← e] at n1
  rw [n1, n2]
theorem feed_row {MI : Mi} {u : Nat} {a b c d e : Int32} (h : MI 15 = MI 127) : fdM MI u a b c d e 15 = rfd MI u a b c d e 20 127 := by
  funext j
  have px : ∀ (M : Mi) (x : Int32) (v k : Nat), ptM M x v k 15 j = if v ≤ j ∧ j < v + k then pbV x (j - v) else M 15 j := fun M x v k => by
    unfold ptM
    by_cases z : v ≤ j ∧ j < v + k
    · rw [if_pos ⟨rfl, z⟩, if_pos z]
    · rw [if_neg (fun y => z y.2), if_neg (fun y => absurd y.1 (by decide)), if_neg z]
  have rx : rfd MI u a b c d e 20 127 j = if u ≤ j ∧ j < u + 20 then rbV (sel5 a b c d e (j - u)) ((j - u) % 4) else MI 127 j := by
    unfold rfd
    by_cases z : u ≤ j ∧ j < u + 20
    · rw [if_pos ⟨rfl, z⟩, if_pos z]
    · rw [if_neg (fun y => z y.2), if_neg (fun y => absurd y.1 (by decide)), if_neg z]
  rw [rx]
  unfold fdM
  rw [px, px, px, px, px]
  unfold sel5
  by_cases hj : u ≤ j ∧ j < u + 20
  · rw [if_pos hj]
    rcases (show j < u + 4 ∨ (u + 4 ≤ j ∧ j < u + 8) ∨ (u + 8 ≤ j ∧ j < u + 12) ∨ (u + 12 ≤ j ∧ j < u + 16) ∨ u + 16 ≤ j by omega) with z | z | z | z | z
    · rw [if_neg (by omega), if_neg (by omega), if_neg (by omega), if_neg (by omega), if_pos (by omega), if_pos (by omega), pb_rb _ (by omega), show (j - u) % 4 = j - u by omega]
    · rw [if_neg (by omega), if_neg (by omega), if_neg (by omega), if_pos (by omega), if_neg (by omega), if_pos (by omega), pb_rb _ (by omega), show (j - u) % 4 = j - (u + 4) by omega]
    · rw [if_neg (by omega), if_neg (by omega), if_pos (by omega), if_neg (by omega), if_neg (by omega), if_pos (by omega), pb_rb _ (by omega), show (j - u) % 4 = j - (u + 8) by omega]
    · rw [if_neg (by omega), if_pos (by omega), if_neg (by omega), if_neg (by omega), if_neg (by omega), if_pos (by omega), pb_rb _ (by omega), show (j - u) % 4 = j - (u + 12) by omega]
    · rw [if_pos (by omega), if_neg (by omega), if_neg (by omega), if_neg (by omega), if_neg (by omega), pb_rb _ (by omega), show (j - u) % 4 = j - (u + 16) by omega]
  · rw [if_neg hj, if_neg (by omega), if_neg (by omega), if_neg (by omega), if_neg (by omega), if_neg (by omega), h]
theorem feed_by {MI : Mi} {u : Nat} {a b c d e : Int32} (h : isBy (MI 127)) : isBy (rfd MI u a b c d e 20 127) := fun j => by
  unfold rfd
  by_cases hj : (127 : Nat) = 127 ∧ u ≤ j ∧ j < u + 20
  · rw [if_pos hj]; exact rb_by _ _
  · rw [if_neg hj, if_neg (fun z => absurd z.1 (by decide))]; exact h j

/-! class and reference agree: rows of letters, of changes, of literals -/
theorem kx1 : ∀ u, u < 64 → ∀ l, l < 6 → ((nI u &&& ((1 : Int32) <<< (nI l &&& 31)) = 0) ↔ u.testBit l = false) ∧ bitR (nI u) (nI l) = u.testBit l ∧ nI u ||| ((1 : Int32) <<< (nI l &&& 31)) = nI (u ||| 2 ^ l) := by decide +kernel
theorem kx2 : ∀ n, n < 7 → ∀ l, l < n → ∀ u, u < 2 ^ n → u ||| 2 ^ l < 2 ^ n ∧ (u.testBit l = false → owy (fun j => (u ||| 2 ^ l).testBit j) n = owy (fun j => u.testBit j) n + 1) := by decide +kernel
theorem kx3 : ∀ u, u < 64 → ∀ d, d < 64 → ∀ l, l < 6 → (u ||| d ||| 2 ^ l = (u ||| 2 ^ l) ||| d) ∧ (u ||| d ||| 2 ^ l = u ||| (d ||| 2 ^ l)) := fun u _ d _ l _ => ⟨by rw [Nat.or_assoc, Nat.or_comm d, ← Nat.or_assoc], Nat.or_assoc _ _ _⟩
theorem le64 {n u : Nat} (hn : n < 7) (hu : u < 2 ^ n) : u < 64 := by
  have h : 2 ^ n ≤ 2 ^ 6 := Nat.pow_le_pow_right (by decide) (by omega)
  exact Nat.lt_of_lt_of_le hu h
def kdI (i : Nat) (x m : Int32) (nl : Nat) : Prop := (i = 4 ∧ x = 97 ∧ m = 4 ∧ nl = 4) ∨ (i = 5 ∧ x = 112 ∧ m = 3 ∧ nl = 3)
section rows
variable {T : Nat → Int32} {L : Nat}
theorem FL_lt {s : Ps} {r : Rs} (h : FL s r) (x m : Int32) : ltR r x m = -1 := by
  rw [ltR_V, if_neg (by rw [h.2.2.2]; decide)]
theorem rl_stop {x m : Int32} {q : Int32 × Rs} (h : ltR q.2 x m = -1) : ∀ k, rlR T L x m k q = q := by
  intro k
  cases k with
  | zero => rfl
  | succ k => rw [rlR, if_pos h]
theorem rc_stop {x m : Int32} {r : Rs} (h : ltR r x m = -1) : ∀ k, rcR T L x m k r = r := by
  intro k
  cases k with
  | zero => rfl
  | succ k => rw [rcR, if_pos h]
theorem rg_stop {q : Int32 × Int32 × Rs} (h : lit q.2.2 = -1) : ∀ k, rgR T L k q = q := by
  intro k
  cases k with
  | zero => rfl
  | succ k => rw [rgR, if_pos h]
theorem rdLs_f {i : Nat} {q : Int32 × Ps} (h : ¬ q.2.1 = 0) : ∀ k, rdLs T L i k q = q := by
  intro k
  cases k with
  | zero => rfl
  | succ k => rw [rdLs, if_neg (fun z => h z.1)]
theorem rdCs_f {i : Nat} {s : Ps} (h : ¬ s.1 = 0) : ∀ k, rdCs T L i k s = s := by
  intro k
  cases k with
  | zero => rfl
  | succ k => rw [rdCs, if_neg (fun z => h z.1)]
theorem fail_n0 {s : Ps} {k : Int32} (hk : ¬ k = 0) : ¬ (failP s k).1 = 0 := by
  unfold failP
  split
  · exact hk
  · rename_i h; exact h
theorem fail_k (s : Ps) (k : Int32) : (failP s k).2.2 = s.2.2 := by
  unfold failP
  split <;> rfl
theorem PD_of {a : Nat} {s : Ps} {r : Rs} (h : TK T L a s r) (hw : s.2.2.1 = 1) : PD (failP s 1) r := by
  have hk := (kd_word h).mp hw
  obtain ⟨h1, h2, p, h3, h4, h5, h6, h7⟩ := h
  unfold failP
  rw [if_pos h1]
  exact ⟨rfl, h2, by show nI s.2.2.2.1 = nI r.2.1; rw [h5, h6], hk⟩
theorem one_ne4 {s : Ps} (h : s.2.2.1 = 1) : ¬ s.2.2.1 = 4 := by rw [h]; decide
/-- letters, each once -/
theorem rl_ok (hT : isBy T) {i nl : Nat} {x m : Int32} (hi : kdI i x m nl) : ∀ k1 k2 u s r a, TK T L a s r → u < 2 ^ nl → owy (fun j => u.testBit j) nl + k1 = nl + 1 → L < a + k2 → (TK T L a (rdLs T L i k1 (nI u, s)).2 (rlR T L x m k2 (nI u, r)).2 ∧ ∃ v, v < 2 ^ nl ∧ (rdLs T L i k1 (nI u, s)).1 = nI v ∧ (rlR T L x m k2 (nI u, r)).1 = nI v) ∨ FL (rdLs T L i k1 (nI u, s)).2 (rlR T L x m k2 (nI u, r)).2 ∨ PD (rdLs T L i k1 (nI u, s)).2 (rlR T L x m k2 (nI u, r)).2 := by
  have hnl : nl < 7 := by rcases hi with ⟨-, -, -, z⟩ | ⟨-, -, -, z⟩ <;> omega
  intro k1
  induction k1 with
  | zero =>
    intro k2 u s r a _ _ hc _
    have := owy_le (fun j => u.testBit j) nl
    omega
  | succ k1 ih =>
    intro k2 u s r a h hu hc h2
    have hu64 := le64 hnl hu
    have hle : letP T L s i = ltR r x m := by
      obtain ⟨e1, e2, -, -⟩ := let_eq hT h
      rcases hi with ⟨rfl, rfl, rfl, rfl⟩ | ⟨rfl, rfl, rfl, rfl⟩
      · exact e1
      · exact e2
    have hrg := let_rng hT h (i := i) (nl := nl) (by rcases hi with ⟨rfl, rfl, rfl, rfl⟩ | ⟨rfl, rfl, rfl, rfl⟩; exact Or.inl ⟨rfl, rfl⟩; exact Or.inr (Or.inl ⟨rfl, rfl⟩))
    obtain ⟨p, hp1, hp2⟩ := TK_p h
    cases k2 with
    | zero => omega
    | succ k2 =>
      rcases hrg with hr | ⟨hw, l, hl, hr⟩
      · rw [rl_stop (by rw [← hle]; exact hr)]
        by_cases hw : s.2.2.1 = 1
        · refine Or.inr (Or.inr ?_)
          rw [rdLs, if_pos ⟨h.1, hw⟩]
          have e : rdL1 T L i (nI u, s) = (nI u ||| 0, failP s 1) := by
            unfold rdL1 rdF
            rw [if_pos (by show letP T L s i < 0; rw [hr]; decide)]
          rw [e, rdLs_f (fail_n0 (by decide))]
          exact PD_of h hw
        · rw [rdLs, if_neg (fun z => hw z.2)]
          exact Or.inl ⟨h, u, hu, rfl, rfl⟩
      · obtain ⟨b1, b2, b3⟩ := kx1 u hu64 l (by omega)
        obtain ⟨d1, d2⟩ := kx2 nl hnl l hl u hu
        have hlt : ltR r x m = nI l := by rw [← hle]; exact hr
        have hne : ¬ ltR r x m = -1 := by rw [hlt]; exact fun z => absurd (show nI l < 0 by rw [z]; decide) (nI_pos (by omega))
        have hge : ¬ letP T L s i < 0 := by rw [hr]; exact nI_pos (by omega)
        rw [rdLs, if_pos ⟨h.1, hw⟩, rlR, if_neg hne]
        dsimp only
        rw [hlt, b2, b3]
        cases hb : u.testBit l
        · rw [if_neg Bool.false_ne_true]
          have e : rdL1 T L i (nI u, s) = (nI (u ||| 2 ^ l), stepP T L s) := by
            unfold rdL1 rdF
            dsimp only
            rw [if_neg hge, hr, if_pos (b1.mpr hb)]
            dsimp only
            rw [b3]
          rw [e]
          rcases ih k2 (u ||| 2 ^ l) (stepP T L s) (nxR T L r) (a + 1) (TK_n1 hT h (Or.inl hw)) d1 (by have := d2 hb; omega) (by omega) with ⟨q1, q2⟩ | q
          · exact Or.inl ⟨TK_a (by omega) q1, q2⟩
          · exact Or.inr q
        · rw [if_pos rfl]
          have e : (rdL1 T L i (nI u, s)).2 = failP s 3 := by
            unfold rdL1 rdF
            dsimp only
            rw [if_neg hge, hr, if_neg (fun z => by rw [b1.mp z] at hb; cases hb)]
          have hF : FL (failP s 3) (nxR T L (wrR r 3)) := FL_n (TK_f h (by decide))
          rw [rdLs_f (by rw [e]; exact fail_n0 (by decide)), rl_stop (FL_lt hF _ _), e]
          exact Or.inr (Or.inl hF)
/-! changes -/
def UD (s : Ps) (r : Rs) (u d : Nat) : Prop := s.2.2.2.2.2.1 = nI u ∧ s.2.2.2.2.2.2 = nI d ∧ r.2.2.2.2.2.2.1 = nI u ∧ r.2.2.2.2.2.2.2 = nI d
theorem or_lt {n u d : Nat} (hu : u < 2 ^ n) (hd : d < 2 ^ n) : u ||| d < 2 ^ n := Nat.or_lt_two_pow hu hd
theorem rc_ok (hT : isBy T) {i nl : Nat} {x m : Int32} (hi : kdI i x m nl) : ∀ k1 k2 u d s r a, TK T L a s r → UD s r u d → u < 2 ^ nl → d < 2 ^ nl → owy (fun j => (u ||| d).testBit j) nl + k1 = nl + 1 → L < a + k2 → (TK T L a (rdCs T L i k1 s) (rcR T L x m k2 r) ∧ ∃ u' d', u' < 2 ^ nl ∧ d' < 2 ^ nl ∧ UD (rdCs T L i k1 s) (rcR T L x m k2 r) u' d' ∧ (u ||| d = 0 ∨ ¬ u' ||| d' = 0) ∧ (¬ letP T L s i = -1 → ¬ u' ||| d' = 0) ∧ (letP T L s i = -1 → u' = u ∧ d' = d)) ∨ FL (rdCs T L i k1 s) (rcR T L x m k2 r) ∨ PD (rdCs T L i k1 s) (rcR T L x m k2 r) := by
  have hnl : nl < 7 := by rcases hi with ⟨-, -, -, z⟩ | ⟨-, -, -, z⟩ <;> omega
  intro k1
  induction k1 with
  | zero =>
    intro k2 u d s r a _ _ _ _ hc _
    have := owy_le (fun j => (u ||| d).testBit j) nl
    omega
  | succ k1 ih =>
    intro k2 u d s r a h hUD hu hd hc h2
    have hud : u ||| d < 2 ^ nl := or_lt hu hd
    have hu64 := le64 hnl hud
    have hle : letP T L s i = ltR r x m := by
      obtain ⟨e1, e2, -, -⟩ := let_eq hT h
      rcases hi with ⟨rfl, rfl, rfl, rfl⟩ | ⟨rfl, rfl, rfl, rfl⟩
      · exact e1
      · exact e2
    have hrg := let_rng hT h (i := i) (nl := nl) (by rcases hi with ⟨rfl, rfl, rfl, rfl⟩ | ⟨rfl, rfl, rfl, rfl⟩; exact Or.inl ⟨rfl, rfl⟩; exact Or.inr (Or.inl ⟨rfl, rfl⟩))
    obtain ⟨p, hp1, hp2⟩ := TK_p h
    have eb : s.2.2.2.2.2.1 ||| s.2.2.2.2.2.2 = nI (u ||| d) := by rw [hUD.1, hUD.2.1, nI_or]
    have eb2 : r.2.2.2.2.2.2.1 ||| r.2.2.2.2.2.2.2 = nI (u ||| d) := by rw [hUD.2.2.1, hUD.2.2.2, nI_or]
    have nosg : ∀ (s' : Ps) c, s'.2.2 = s.2.2 → s.2.2.1 = 1 → sgnP T L s' c = false := fun s' c e hw => by
      unfold sgnP
      rw [show s'.2.2.1 = 1 by rw [e]; exact hw, decide_eq_false (show ¬ (1 : Int32) = 3 by decide), Bool.false_and]
    have cfail : ∀ k, ¬ k = 0 → s.2.2.1 = 1 → rdF T L i (nI (u ||| d)) s = (0, failP s k) → chg1 T L i s = failP s k := fun k hk hw e => by
      have e2 : chg2 T L (0, failP s k) = failP s k := by
        unfold chg2
        dsimp only
        rw [nosg _ _ (fail_k s k) hw, nosg _ _ (fail_k s k) hw, if_neg Bool.false_ne_true, if_neg Bool.false_ne_true]
        have := fail_n0 (s := s) hk
        show failP (failP s k) 1 = failP s k
        unfold failP at this ⊢
        rw [if_neg this]
      unfold chg1
      rw [eb, e, e2, if_neg (fail_n0 hk)]
    cases k2 with
    | zero => omega
    | succ k2 =>
      rcases hrg with hr | ⟨hw, l, hl, hr⟩
      · rw [rc_stop (by rw [← hle]; exact hr)]
        by_cases hw : s.2.2.1 = 1
        · refine Or.inr (Or.inr ?_)
          rw [rdCs, if_pos ⟨h.1, hw⟩]
          have e : rdF T L i (nI (u ||| d)) s = (0, failP s 1) := by
            unfold rdF
            rw [if_pos (by rw [hr]; decide)]
          rw [cfail 1 (by decide) hw e, rdCs_f (fail_n0 (by decide))]
          exact PD_of h hw
        · rw [rdCs, if_neg (fun z => hw z.2)]
          exact Or.inl ⟨h, u, d, hu, hd, hUD, Classical.em _ |>.elim Or.inl Or.inr, fun z => absurd hr z, fun _ => ⟨rfl, rfl⟩⟩
      · obtain ⟨b1, b2, b3⟩ := kx1 (u ||| d) hu64 l (by omega)
        obtain ⟨d1, d2⟩ := kx2 nl hnl l hl (u ||| d) hud
        obtain ⟨b1u, b2u, b3u⟩ := kx1 u (le64 hnl hu) l (by omega)
        obtain ⟨b1d, b2d, b3d⟩ := kx1 d (le64 hnl hd) l (by omega)
        have d1u := (kx2 nl hnl l hl u hu).1
        have d1d := (kx2 nl hnl l hl d hd).1
        have hlt : ltR r x m = nI l := by rw [← hle]; exact hr
        have hne : ¬ ltR r x m = -1 := by rw [hlt]; exact fun z => absurd (show nI l < 0 by rw [z]; decide) (nI_pos (by omega))
        have hge : ¬ letP T L s i < 0 := by rw [hr]; exact nI_pos (by omega)
        have hno1 : ¬ letP T L s i = -1 := by rw [hle]; exact hne
        have pw : 0 < 2 ^ l := Nat.pow_pos (by decide)
        rw [rdCs, if_pos ⟨h.1, hw⟩, rcR, if_neg hne, hlt]
        cases hb : (u ||| d).testBit l
        · have eF : rdF T L i (nI (u ||| d)) s = ((1 : Int32) <<< (nI l &&& 31), stepP T L s) := by
            unfold rdF
            rw [if_neg hge, hr, if_pos (b1.mpr hb)]
          have hTK1 := TK_n1 hT h (Or.inl hw)
          have sg1 := sg_eq hT hTK1
          have eU : (nxR T L r).2.2.2.2.2.2 = r.2.2.2.2.2.2 := nx_ud r
          have ec1 : c1R T L (nI l) r = nxR T L (cgR (nxR T L r) ((1 : Int32) <<< (nI l &&& 31))) := by
            unfold c1R
            rw [eb2, b2, hb, if_neg Bool.false_ne_true]
          rw [ec1]
          unfold chg1
          rw [eb, eF]
          unfold chg2 cgR
          dsimp only
          rw [sg1 43, sg1 45]
          by_cases s43 : (nxR T L r).2.2.2.1 = 4 ∧ (nxR T L r).2.2.2.2.1 = 43
          · rw [decide_eq_true s43, if_pos rfl, if_pos s43]
            have hk3 : (orU (stepP T L s) ((1 : Int32) <<< (nI l &&& 31))).2.2.1 = 3 := sg_kind (T := T) (L := L) (Or.inl (by show sgnP T L (stepP T L s) 43 = true; rw [sg1 43]; exact decide_eq_true s43))
            have hTK2 : TK T L (a + 1) (orU (stepP T L s) ((1 : Int32) <<< (nI l &&& 31))) (oRi (nxR T L r) ((1 : Int32) <<< (nI l &&& 31))) := hTK1
            rw [if_pos hTK2.1]
            have hTK3 := TK_n1 hT hTK2 (Or.inr (Or.inr hk3))
            have hUD3 : UD (stepP T L (orU (stepP T L s) ((1 : Int32) <<< (nI l &&& 31)))) (nxR T L (oRi (nxR T L r) ((1 : Int32) <<< (nI l &&& 31)))) (u ||| 2 ^ l) d := by
              have eU2 := nx_ud (T := T) (L := L) (oRi (nxR T L r) ((1 : Int32) <<< (nI l &&& 31)))
              refine ⟨?_, hUD.2.1, ?_, ?_⟩
              · show s.2.2.2.2.2.1 ||| _ = _
                rw [hUD.1, b3u]
              · rw [eU2]
                show (nxR T L r).2.2.2.2.2.2.1 ||| _ = _
                rw [eU, hUD.2.2.1, b3u]
              · rw [eU2]
                show (nxR T L r).2.2.2.2.2.2.2 = _
                rw [eU, hUD.2.2.2]
            have eor := (kx3 u (le64 hnl hu) d (le64 hnl hd) l (by omega)).1
            rcases ih k2 (u ||| 2 ^ l) d _ _ (a + 1 + 1) hTK3 hUD3 d1u hd (by have := d2 hb; rw [eor] at this; omega) (by omega) with ⟨q1, u', d', q2, q3, q4, q5, q6⟩ | q
            · have hnz : ¬ (u ||| 2 ^ l) ||| d = 0 := fun z => by
                have z1 := Nat.or_eq_zero_iff.mp z
                have z2 := Nat.or_eq_zero_iff.mp z1.1
                omega
              have hnz2 : ¬ u' ||| d' = 0 := q5.resolve_left hnz
              exact Or.inl ⟨TK_a (by omega) q1, u', d', q2, q3, q4, Or.inr hnz2, fun _ => hnz2, fun z => absurd z hno1⟩
            · exact Or.inr q
          · rw [decide_eq_false s43, if_neg Bool.false_ne_true, if_neg s43]
            by_cases s45 : (nxR T L r).2.2.2.1 = 4 ∧ (nxR T L r).2.2.2.2.1 = 45
            · rw [decide_eq_true s45, if_pos rfl, if_pos s45]
              have hk3 : (orD (stepP T L s) ((1 : Int32) <<< (nI l &&& 31))).2.2.1 = 3 := sg_kind (T := T) (L := L) (Or.inr (Or.inl (by show sgnP T L (stepP T L s) 45 = true; rw [sg1 45]; exact decide_eq_true s45)))
              have hTK2 : TK T L (a + 1) (orD (stepP T L s) ((1 : Int32) <<< (nI l &&& 31))) (oSi (nxR T L r) ((1 : Int32) <<< (nI l &&& 31))) := hTK1
              rw [if_pos hTK2.1]
              have hTK3 := TK_n1 hT hTK2 (Or.inr (Or.inr hk3))
              have hUD3 : UD (stepP T L (orD (stepP T L s) ((1 : Int32) <<< (nI l &&& 31)))) (nxR T L (oSi (nxR T L r) ((1 : Int32) <<< (nI l &&& 31)))) u (d ||| 2 ^ l) := by
                have eU2 := nx_ud (T := T) (L := L) (oSi (nxR T L r) ((1 : Int32) <<< (nI l &&& 31)))
                refine ⟨hUD.1, ?_, ?_, ?_⟩
                · show s.2.2.2.2.2.2 ||| _ = _
                  rw [hUD.2.1, b3d]
                · rw [eU2]
                  show (nxR T L r).2.2.2.2.2.2.1 = _
                  rw [eU, hUD.2.2.1]
                · rw [eU2]
                  show (nxR T L r).2.2.2.2.2.2.2 ||| _ = _
                  rw [eU, hUD.2.2.2, b3d]
              have eor := (kx3 u (le64 hnl hu) d (le64 hnl hd) l (by omega)).2
              rcases ih k2 u (d ||| 2 ^ l) _ _ (a + 1 + 1) hTK3 hUD3 hu d1d (by have := d2 hb; rw [eor] at this; omega) (by omega) with ⟨q1, u', d', q2, q3, q4, q5, q6⟩ | q
              · have hnz : ¬ u ||| (d ||| 2 ^ l) = 0 := fun z => by
                  have z1 := Nat.or_eq_zero_iff.mp z
                  have z2 := Nat.or_eq_zero_iff.mp z1.2
                  omega
                have hnz2 : ¬ u' ||| d' = 0 := q5.resolve_left hnz
                exact Or.inl ⟨TK_a (by omega) q1, u', d', q2, q3, q4, Or.inr hnz2, fun _ => hnz2, fun z => absurd z hno1⟩
              · exact Or.inr q
            · rw [decide_eq_false s45, if_neg Bool.false_ne_true, if_neg s45]
              have hF : FL (failP (stepP T L s) 1) (nxR T L (wrR (nxR T L r) 1)) := FL_n (TK_f hTK1 (by decide))
              rw [if_neg (fail_n0 (by decide)), rdCs_f (fail_n0 (by decide)), rc_stop (FL_lt hF _ _)]
              exact Or.inr (Or.inl hF)
        · have eF : rdF T L i (nI (u ||| d)) s = (0, failP s 3) := by
            unfold rdF
            rw [if_neg hge, hr, if_neg (fun z => by rw [b1.mp z] at hb; cases hb)]
          have hF0 : FL (failP s 3) (nxR T L (wrR r 3)) := FL_n (TK_f h (by decide))
          have ec1 : FL (failP s 3) (c1R T L (nI l) r) := by
            unfold c1R
            rw [eb2, b2, hb, if_pos rfl]
            refine FL_n ?_
            unfold cgR
            rw [if_neg (fun z => by rw [hF0.2.2.2] at z; exact absurd z.1 (by decide)), if_neg (fun z => by rw [hF0.2.2.2] at z; exact absurd z.1 (by decide))]
            exact FL_w hF0 1
          rw [cfail 3 (by decide) hw eF, rdCs_f (fail_n0 (by decide)), rc_stop (FL_lt ec1 _ _)]
          exact Or.inr (Or.inl ec1)
end rows

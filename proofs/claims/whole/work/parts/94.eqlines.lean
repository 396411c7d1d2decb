/-! class and reference agree: LINES, the whole text -/
section lines
variable {T : Nat → Int32} {L : Nat}
theorem rt_ok (hT : isBy T) : ∀ k1 k2 o d s r a, TK T L a s r → s.2.2.2.2.2.1 = nI o → s.2.2.2.2.2.2 = nI d → o < 64 → d < 64 → owy (fun j => (o ||| d).testBit j) 6 + k1 = 7 → L < a + k2 → (TK T L a (rdTs T L k1 s) (rgR T L k2 (nI (o ||| d), nI o, r)).2.2 ∧ ∃ o' d', o' < 64 ∧ d' < 64 ∧ (rdTs T L k1 s).2.2.2.2.2.1 = nI o' ∧ (rdTs T L k1 s).2.2.2.2.2.2 = nI d' ∧ (rgR T L k2 (nI (o ||| d), nI o, r)).1 = nI (o' ||| d') ∧ (rgR T L k2 (nI (o ||| d), nI o, r)).2.1 = nI o') ∨ FL (rdTs T L k1 s) (rgR T L k2 (nI (o ||| d), nI o, r)).2.2 ∨ PD (rdTs T L k1 s) (rgR T L k2 (nI (o ||| d), nI o, r)).2.2 := by
  intro k1
  induction k1 with
  | zero =>
    intro k2 o d s r a _ _ _ _ _ hc _
    have := owy_le (fun j => (o ||| d).testBit j) 6
    omega
  | succ k1 ih =>
    intro k2 o d s r a h ho hd o64 d64 hc h2
    have hud : o ||| d < 2 ^ 6 := or_lt (n := 6) o64 d64
    have hle : letP T L s 7 = lit r := (let_eq hT h).2.2.1
    have hrg := let_rng hT h (i := 7) (nl := 6) (Or.inr (Or.inr (Or.inl ⟨rfl, rfl⟩)))
    obtain ⟨p, hp1, hp2⟩ := TK_p h
    have eb : s.2.2.2.2.2.1 ||| s.2.2.2.2.2.2 = nI (o ||| d) := by rw [ho, hd, nI_or]
    cases k2 with
    | zero => omega
    | succ k2 =>
      rcases hrg with hr | ⟨hw, l, hl, hr⟩
      · rw [rg_stop (by show lit r = -1; rw [← hle]; exact hr)]
        by_cases hw : s.2.2.1 = 1
        · refine Or.inr (Or.inr ?_)
          have e : rdF T L 7 (nI (o ||| d)) s = (0, failP s 1) := by
            unfold rdF
            rw [if_pos (by rw [hr]; decide)]
          rw [rdTs, if_pos hw, eb, e, if_neg (fail_n0 (by decide))]
          exact PD_of h hw
        · rw [rdTs, if_neg hw]
          exact Or.inl ⟨h, o, d, o64, d64, ho, hd, rfl, rfl⟩
      · obtain ⟨b1, b2, b3⟩ := kx1 (o ||| d) hud l hl
        obtain ⟨d1, d2⟩ := kx2 6 (by decide) l hl (o ||| d) hud
        have b3u := (kx1 o o64 l hl).2.2
        have b3d := (kx1 d d64 l hl).2.2
        have d1u : o ||| 2 ^ l < 64 := (kx2 6 (by decide) l hl o o64).1
        have d1d : d ||| 2 ^ l < 64 := (kx2 6 (by decide) l hl d d64).1
        have hlt : lit r = nI l := by rw [← hle]; exact hr
        have hne : ¬ lit r = -1 := by rw [hlt]; exact fun z => absurd (show nI l < 0 by rw [z]; decide) (nI_pos (by omega))
        have hge : ¬ letP T L s 7 < 0 := by rw [hr]; exact nI_pos (by omega)
        have hg1 : rgR T L (k2 + 1) (nI (o ||| d), nI o, r) = rgR T L k2 (gt1R T L (nI (o ||| d), nI o, r)) := by rw [rgR, if_neg hne]
        rw [hg1, rdTs, if_pos hw, eb]
        cases hb : (o ||| d).testBit l
        · have eF : rdF T L 7 (nI (o ||| d)) s = ((1 : Int32) <<< (nI l &&& 31), stepP T L s) := by
            unfold rdF
            rw [if_neg hge, hr, if_pos (b1.mpr hb)]
          have hTK1 := TK_n1 hT h (Or.inl hw)
          have sg1 := sg_eq hT hTK1 39
          rw [eF, if_pos hTK1.1]
          unfold ltr1 gt1R
          dsimp only
          rw [hlt, b2, hb, if_neg Bool.false_ne_true, b3, sg1]
          by_cases s39 : (nxR T L r).2.2.2.1 = 4 ∧ (nxR T L r).2.2.2.2.1 = 39
          · rw [decide_eq_true s39, if_pos rfl, if_pos s39]
            have hk3 : (orD (stepP T L s) ((1 : Int32) <<< (nI l &&& 31))).2.2.1 = 3 := sg_kind (T := T) (L := L) (Or.inr (Or.inr (Or.inl (by show sgnP T L (stepP T L s) 39 = true; rw [sg1]; exact decide_eq_true s39))))
            have hTK2 : TK T L (a + 1) (orD (stepP T L s) ((1 : Int32) <<< (nI l &&& 31))) (nxR T L r) := hTK1
            have hTK3 := TK_n1 hT hTK2 (Or.inr (Or.inr hk3))
            have eor := (kx3 o o64 d d64 l hl).2
            have hih := ih k2 o (d ||| 2 ^ l) _ _ (a + 1 + 1) hTK3 (show s.2.2.2.2.2.1 = nI o from ho) (show s.2.2.2.2.2.2 ||| _ = _ by rw [hd, b3d]) o64 d1d (by have := d2 hb; rw [eor] at this; omega) (by omega)
            rw [← eor] at hih
            rcases hih with ⟨q1, q2⟩ | q
            · exact Or.inl ⟨TK_a (by omega) q1, q2⟩
            · exact Or.inr q
          · rw [decide_eq_false s39, if_neg Bool.false_ne_true, if_neg s39, b3u]
            have hTK2 : TK T L (a + 1) (orU (stepP T L s) ((1 : Int32) <<< (nI l &&& 31))) (nxR T L r) := hTK1
            have eor := (kx3 o o64 d d64 l hl).1
            have hih := ih k2 (o ||| 2 ^ l) d _ _ (a + 1) hTK2 (show s.2.2.2.2.2.1 ||| _ = _ by rw [ho, b3u]) (show s.2.2.2.2.2.2 = nI d from hd) d1u d64 (by have := d2 hb; rw [eor] at this; omega) (by omega)
            rw [← eor] at hih
            rcases hih with ⟨q1, q2⟩ | q
            · exact Or.inl ⟨TK_a (by omega) q1, q2⟩
            · exact Or.inr q
        · have eF : rdF T L 7 (nI (o ||| d)) s = (0, failP s 3) := by
            unfold rdF
            rw [if_neg hge, hr, if_neg (fun z => by rw [b1.mp z] at hb; cases hb)]
          have hF0 : FL (failP s 3) (nxR T L (wrR r 3)) := FL_n (TK_f h (by decide))
          have eg : (gt1R T L (nI (o ||| d), nI o, r)).2.2 = nxR T L (wrR r 3) := by
            unfold gt1R
            dsimp only
            rw [hlt, b2, hb, if_pos rfl, if_neg (fun z => by rw [hF0.2.2.2] at z; exact absurd z.1 (by decide))]
          rw [eF, if_neg (fail_n0 (by decide)), rg_stop (by rw [eg]; unfold lit; rw [FL_lt hF0, FL_lt hF0, if_pos rfl, if_pos rfl]), eg]
          exact Or.inr (Or.inl hF0)
/-! a STATE's number, a / -/
theorem rdN_ok (hT : isBy T) {a S : Nat} {s : Ps} {r : Rs} (hS : S < 1000) (h : TK T L a s r) : (TK T L a (rdN T L (nI S) s).2 (saR T L (nI S) r).2 ∧ ∃ k, k < S ∧ (rdN T L (nI S) s).1 = nI k ∧ (saR T L (nI S) r).1 = nI k) ∨ FL (rdN T L (nI S) s).2 (saR T L (nI S) r).2 := by
  obtain ⟨k1, k2⟩ := kd_whole hT h
  unfold rdN saR
  rw [if_pos h.1]
  by_cases hk : s.2.2.1 = 2
  · obtain ⟨e1, n, hn, e2⟩ := k2 hk
    rw [if_pos hk, if_pos (k1.mp hk), ← e1, e2]
    by_cases hl : n < S
    · rw [if_pos (nI_lt hl (by omega)), if_pos (nI_lt hl (by omega))]
      exact Or.inl ⟨TK_n hT h (by rw [hk]; decide), n, hl, rfl, rfl⟩
    · rw [if_neg (fun z => hl ((nI_ltI (by omega) (by omega)).mp z)), if_neg (fun z => hl ((nI_ltI (by omega) (by omega)).mp z))]
      exact Or.inr (FL_n (TK_f h (by decide)))
  · rw [if_neg hk, if_neg (fun z => hk (k1.mpr z))]
    exact Or.inr (FL_n (TK_f h (by decide)))
theorem rdN_f {S : Int32} {s : Ps} {r : Rs} (h : FL s r) : FL (rdN T L S s).2 (saR T L S r).2 := by
  unfold rdN saR
  rw [if_neg (by rw [h.1]; exact psn0 h.2.1), if_neg (by rw [h.2.2.2]; decide)]
  exact FL_n (FL_w h 1)
theorem rdS_f {s : Ps} {r : Rs} (h : FL s r) : FL (rdS T L s) (slR T L r) := by
  unfold rdS slR
  rw [if_neg (by rw [h.1]; exact psn0 h.2.1), if_neg (fun z => by rw [h.2.2.2] at z; exact absurd z.1 (by decide))]
  exact FL_n (FL_w h 1)
theorem rdS_p {s : Ps} {r : Rs} (h : PD s r) : FL (rdS T L s) (slR T L r) := by
  unfold rdS slR
  rw [if_neg (by rw [h.1]; decide), if_neg (fun z => by rw [h.2.2.2] at z; exact absurd z.1 (by decide))]
  exact FL_n (PD_f h)
theorem rdS_ok (hT : isBy T) {a : Nat} {s : Ps} {r : Rs} (h : TK T L a s r) : TK T L a (rdS T L s) (slR T L r) ∨ FL (rdS T L s) (slR T L r) := by
  unfold rdS slR
  rw [if_pos h.1, sg_eq hT h]
  by_cases z : r.2.2.2.1 = 4 ∧ r.2.2.2.2.1 = 47
  · rw [decide_eq_true z, if_pos rfl, if_pos z]
    refine Or.inl (TK_n hT h ?_)
    have : s.2.2.1 = 3 := sg_kind (T := T) (L := L) (Or.inr (Or.inr (Or.inr (Or.inl (by rw [sg_eq hT h]; exact decide_eq_true z)))))
    rw [this]; decide
  · rw [decide_eq_false z, if_neg Bool.false_ne_true, if_neg z]
    exact Or.inr (FL_n (TK_f h (by decide)))
theorem rl_F {x m v : Int32} {k : Nat} {s : Ps} {r : Rs} (h : FL s r) : FL s (rlR T L x m k (v, r)).2 := by
  rw [rl_stop (q := (v, r)) (FL_lt h x m)]
  exact h
theorem rc_F {x m : Int32} {k : Nat} {s : Ps} {r : Rs} (h : FL s r) : FL s (rcR T L x m k r) := by
  rw [rc_stop (FL_lt h x m)]
  exact h
theorem rdL_f {i : Nat} {x m : Int32} {k : Nat} {s : Ps} {r : Rs} (h : FL s r) : FL (rdL T L i s).2 (rlR T L x m k (0, r)).2 := by
  unfold rdL
  rw [rdLs_f (by show ¬ s.1 = 0; rw [h.1]; exact psn0 h.2.1), rl_stop (FL_lt h x m)]
  exact h
theorem rdC_f {i : Nat} {x m : Int32} {k : Nat} {s : Ps} {r : Rs} (h : FL s r) : FL (rdC T L i s) (rcR T L x m k (zRS r)) := by
  have h' : FL (zUD s) (zRS r) := h
  unfold rdC
  rw [rdCs_f (by show ¬ s.1 = 0; rw [h.1]; exact psn0 h.2.1), rc_stop (FL_lt h' x m)]
  exact h'
theorem PD_p {s : Ps} {r : Rs} (h : PD s r) (k : Int32) : PD (failP s k) r := by
  unfold failP
  rw [if_neg (by rw [h.1]; decide)]
  exact h
/-! what both have read so far -/
def arcQ (S : Nat) (F H : Nat → Int32) : Prop := ∃ f g u v o p, f < S ∧ g < S ∧ u < 16 ∧ v < 16 ∧ o < 8 ∧ p < 8 ∧ F 0 = nI f ∧ F 1 = nI g ∧ F 2 = nI u ∧ F 3 = nI v ∧ F 4 = nI o ∧ F 5 = nI p ∧ ∀ j, j < 6 → H j = F j
def gatQ (D E : Mi) (g : Nat) : Prop := ∃ f c, f < 5 ∧ c < 729 ∧ D 27 g = nI f ∧ D 28 g = nI c ∧ E 129 (56 + 2 * g) = nI f ∧ E 129 (57 + 2 * g) = nI c
def begQ (D E : Mi) (S : Nat) : Prop := (D 16 0 = 0 ∧ E 131 1 = -1) ∨ (D 16 0 = 1 ∧ ∃ b i o, b < S ∧ i < 16 ∧ o < 8 ∧ D 16 3 = nI b ∧ E 131 1 = nI b ∧ D 16 4 = nI i ∧ E 131 2 = nI i ∧ D 16 5 = nI o ∧ E 131 3 = nI o)
def dRl (D E : Mi) (S A G : Nat) : Prop := (S ≤ 6 ∧ A ≤ 8 ∧ G ≤ 16) ∧ (D 16 1 = nI S ∧ E 131 0 = nI S ∧ D 16 6 = nI A ∧ E 129 6 = nI A ∧ D 16 8 = nI G ∧ E 129 55 = nI G) ∧ (∀ s, s < S → ∃ c, c < 4 ∧ D 17 s = nI c ∧ E 129 s = nI c) ∧ (∀ i, i < A → arcQ S (D (19 + i)) (fun j => E 129 (7 + 6 * i + j))) ∧ (∀ g, g < G → gatQ D E g) ∧ begQ D E S
def LnO (T : Nat → Int32) (L a : Nat) (q : Ps × Mi) (z : Rs × Mi) : Prop := (TK T L a q.1 z.1 ∧ q.2 15 = T ∧ z.2 127 = T ∧ ∃ S A G, dRl q.2 z.2 S A G) ∨ FL q.1 z.1 ∨ PD q.1 z.1
theorem arcQ_S {S S' : Nat} {F H : Nat → Int32} (hS : S ≤ S') (h : arcQ S F H) : arcQ S' F H := by
  obtain ⟨f, g, u, v, o, p, h1, h2, h3⟩ := h
  exact ⟨f, g, u, v, o, p, by omega, by omega, h3⟩
/-- a STATE's LINE -/
theorem ln_state (hT : isBy T) {a : Nat} {s : Ps} {r : Rs} {D E : Mi} (h : TK T L a s r) (hw : s.2.2.1 = 1) (hD : D 15 = T) (hE : E 127 = T) {S A G : Nat} (hR : dRl D E S A G) : LnO T L (a + 1) (rsP L s D) (qsP L r E) := by
  obtain ⟨⟨b1, b2, b3⟩, ⟨e1, e2, e3, e4, e5, e6⟩, r1, r2, r3, r4⟩ := id hR
  have cs : cS D = S := by unfold cS; rw [e1, nI_clamp (by omega)]
  have ks : kS E = S := by unfold kS; rw [e2, nI_clamp (by omega)]
  have h1 := TK_n1 hT h (Or.inl hw)
  unfold rsP qsP
  rw [cs, ks, hD, hE]
  dsimp only
  by_cases z : S < 6
  · rw [if_pos z, if_neg (show ¬ S = 6 by omega)]
    obtain ⟨k1, k2⟩ := kd_whole hT h1
    by_cases hk : (stepP T L s).2.2.1 = 2
    · obtain ⟨g1, n, hn, g2⟩ := k2 hk
      rw [if_pos hk, if_pos (k1.mp hk), ← g1, g2]
      by_cases hl : n < 4
      · have l4 : nI n < 4 := nI_lt (b := 4) hl (by decide)
        rw [if_pos l4, if_pos l4, if_neg (by rw [h1.2.1]; exact Int32.lt_irrefl), g2]
        refine Or.inl ⟨TK_n hT h1 (by rw [hk]; decide), ?_, ?_, S + 1, A, G, ?_⟩
        · show u2 (u2 D 17 S (nI n)) 16 1 (nI (S + 1)) 15 = T
          rw [u2_row _ _ (by decide), u2_row _ _ (by decide), hD]
        · show u2 (u2 E 129 S (nI n)) 131 0 (nI (S + 1)) 127 = T
          rw [u2_row _ _ (by decide), u2_row _ _ (by decide), hE]
        · show dRl (u2 (u2 D 17 S (nI n)) 16 1 (nI (S + 1))) (u2 (u2 E 129 S (nI n)) 131 0 (nI (S + 1))) (S + 1) A G
          have fD : ∀ b j, b ≠ 17 → ¬ (b = 16 ∧ j = 1) → u2 (u2 D 17 S (nI n)) 16 1 (nI (S + 1)) b j = D b j := fun b j n1 n2 => by rw [u2_ne _ _ n2, u2_ne _ _ (fun z => n1 z.1)]
          have fE : ∀ b j, ¬ (b = 129 ∧ j = S) → ¬ (b = 131 ∧ j = 0) → u2 (u2 E 129 S (nI n)) 131 0 (nI (S + 1)) b j = E b j := fun b j n1 n2 => by rw [u2_ne _ _ n2, u2_ne _ _ n1]
          refine ⟨⟨by omega, b2, b3⟩, ⟨u2_eq _ _ _ _, u2_eq _ _ _ _, ?_, ?_, ?_, ?_⟩, fun q hq => ?_, fun i hi => ?_, fun g hg => ?_, ?_⟩
          · rw [fD _ _ (by decide) (by decide)]; exact e3
          · rw [fE _ _ (by omega) (by decide)]; exact e4
          · rw [fD _ _ (by decide) (by decide)]; exact e5
          · rw [fE _ _ (by omega) (by decide)]; exact e6
          · rcases Nat.lt_or_ge q S with y | y
            · obtain ⟨c, hc, c1, c2⟩ := r1 q y
              refine ⟨c, hc, ?_, ?_⟩
              · rw [u2_ne _ _ (by omega), u2_ne _ _ (by omega)]; exact c1
              · rw [fE _ _ (by omega) (by omega)]; exact c2
            · obtain rfl : q = S := by omega
              refine ⟨n, hl, ?_, ?_⟩
              · rw [u2_ne _ _ (by omega), u2_eq]
              · rw [u2_ne _ _ (by omega), u2_eq]
          · have e9 : u2 (u2 D 17 S (nI n)) 16 1 (nI (S + 1)) (19 + i) = D (19 + i) := funext fun j => fD _ _ (by omega) (by omega)
            have e8 : (fun j => u2 (u2 E 129 S (nI n)) 131 0 (nI (S + 1)) 129 (7 + 6 * i + j)) = fun j => E 129 (7 + 6 * i + j) := funext fun j => fE _ _ (by omega) (by omega)
            rw [e9, e8]
            exact arcQ_S (by omega) (r2 i hi)
          · obtain ⟨f, c, y1, y2, y3, y4, y5, y6⟩ := r3 g hg
            refine ⟨f, c, y1, y2, ?_, ?_, ?_, ?_⟩
            · rw [fD _ _ (by decide) (by omega)]; exact y3
            · rw [fD _ _ (by decide) (by omega)]; exact y4
            · rw [fE _ _ (by omega) (by omega)]; exact y5
            · rw [fE _ _ (by omega) (by omega)]; exact y6
          · unfold begQ
            rw [fD 16 0 (by decide) (by decide), fD 16 3 (by decide) (by decide), fD 16 4 (by decide) (by decide), fD 16 5 (by decide) (by decide), fE 131 1 (by omega) (by decide), fE 131 2 (by omega) (by decide), fE 131 3 (by omega) (by decide)]
            rcases r4 with y | ⟨y, b, i, o, y1, y2⟩
            · exact Or.inl y
            · exact Or.inr ⟨y, b, i, o, by omega, y2⟩
      · have l4 : ¬ nI n < 4 := fun y => hl ((nI_ltI (b := 4) (by omega) (by decide)).mp y)
        have hF : FL (failP (stepP T L s) 4) (wrR (nxR T L r) 4) := TK_f h1 (by decide)
        rw [if_neg l4, if_neg l4, if_pos hF.2.1]
        exact Or.inr (Or.inl hF)
    · have hF : FL (failP (stepP T L s) 1) (wrR (nxR T L r) 1) := TK_f h1 (by decide)
      rw [if_neg hk, if_neg (fun y => hk (k1.mpr y)), if_pos hF.2.1]
      exact Or.inr (Or.inl hF)
  · rw [if_neg z, if_pos (show S = 6 by omega)]
    have hF : FL (failP s 5) (nxR T L (wrR r 5)) := FL_n (TK_f h (by decide))
    have hF2 := FL_w hF 1
    have hk3 : ¬ (nxR T L (wrR r 5)).2.2.2.1 = 3 := by rw [hF.2.2.2]; decide
    rw [if_neg hk3, if_pos hF2.2.1]
    exact Or.inr (Or.inl hF2)
/-- begin's LINE -/
theorem ln_begin (hT : isBy T) {a : Nat} {s : Ps} {r : Rs} {D E : Mi} (h : TK T L a s r) (hw : s.2.2.1 = 1) (hD : D 15 = T) (hE : E 127 = T) {S A G : Nat} (hR : dRl D E S A G) : LnO T L (a + 1) (rbP L s D) (qbP L r E) := by
  obtain ⟨⟨b1, b2, b3⟩, ⟨e1, e2, e3, e4, e5, e6⟩, r1, r2, r3, r4⟩ := id hR
  have h1 := TK_n1 hT h (Or.inl hw)
  unfold rbP qbP
  rw [hD, hE, e1, e2]
  dsimp only
  rcases r4 with ⟨y1, y2⟩ | ⟨y1, b, i, o, y3, y4, y5, y6, y7, y8⟩
  · rw [if_pos y1, if_pos y2]
    obtain ⟨q1, hq1⟩ : ∃ q1, q1 = rdN T L (nI S) (stepP T L s) := ⟨_, rfl⟩
    obtain ⟨p1, hp1⟩ : ∃ p1, p1 = saR T L (nI S) (nxR T L r) := ⟨_, rfl⟩
    have o1 := rdN_ok hT (show S < 1000 by omega) h1
    rw [← hq1, ← hp1] at o1 ⊢
    obtain ⟨q2, hq2⟩ : ∃ q2, q2 = rdL T L 4 q1.2 := ⟨_, rfl⟩
    obtain ⟨p2, hp2⟩ : ∃ p2, p2 = rlR T L 97 4 (L + 1) (0, p1.2) := ⟨_, rfl⟩
    rw [← hq2, ← hp2]
    obtain ⟨q3, hq3⟩ : ∃ q3, q3 = rdS T L q2.2 := ⟨_, rfl⟩
    obtain ⟨p3, hp3⟩ : ∃ p3, p3 = slR T L p2.2 := ⟨_, rfl⟩
    rw [← hq3, ← hp3]
    obtain ⟨q4, hq4⟩ : ∃ q4, q4 = rdL T L 5 q3 := ⟨_, rfl⟩
    obtain ⟨p4, hp4⟩ : ∃ p4, p4 = rlR T L 112 3 (L + 1) (0, p3) := ⟨_, rfl⟩
    rw [← hq4, ← hp4]
    have f3 : FL q3 p3 → LnO T L (a + 1) (q4.2, u2 (u2 (u2 (u2 D 16 0 1) 16 3 q1.1) 16 4 q2.1) 16 5 q4.1) (p4.2, if 0 < p4.2.1 then E else u2 (u2 (u2 E 131 1 p1.1) 131 2 p2.1) 131 3 p4.1) := fun hF => Or.inr (Or.inl (by rw [hq4, hp4]; exact rdL_f hF))
    have f2 : FL q2.2 p2.2 → LnO T L (a + 1) (q4.2, u2 (u2 (u2 (u2 D 16 0 1) 16 3 q1.1) 16 4 q2.1) 16 5 q4.1) (p4.2, if 0 < p4.2.1 then E else u2 (u2 (u2 E 131 1 p1.1) 131 2 p2.1) 131 3 p4.1) := fun hF => f3 (by rw [hq3, hp3]; exact rdS_f hF)
    rcases o1 with ⟨t1, k, hk, v1, v2⟩ | hF
    · have o2 := rl_ok hT (i := 4) (nl := 4) (x := 97) (m := 4) (Or.inl ⟨rfl, rfl, rfl, rfl⟩) 5 (L + 1) 0 q1.2 p1.2 (a + 1) t1 (by decide) (by decide) (by omega)
      have e2' : rdLs T L 4 5 (nI 0, q1.2) = q2 := hq2.symm
      have e2'' : rlR T L 97 4 (L + 1) (nI 0, p1.2) = p2 := hp2.symm
      rw [e2', e2''] at o2
      rcases o2 with ⟨t2, iu, hiu, v3, v4⟩ | hF | hP
      · have o3 := rdS_ok hT t2
        rw [← hq3, ← hp3] at o3
        rcases o3 with t3 | hF
        · have o4 := rl_ok hT (i := 5) (nl := 3) (x := 112) (m := 3) (Or.inr ⟨rfl, rfl, rfl, rfl⟩) 4 (L + 1) 0 q3 p3 (a + 1) t3 (by decide) (by decide) (by omega)
          have e4' : rdLs T L 5 4 (nI 0, q3) = q4 := hq4.symm
          have e4'' : rlR T L 112 3 (L + 1) (nI 0, p3) = p4 := hp4.symm
          rw [e4', e4''] at o4
          rcases o4 with ⟨t4, ou, hou, v5, v6⟩ | hF | hP
          · rw [if_neg (by rw [t4.2.1]; exact Int32.lt_irrefl)]
            refine Or.inl ⟨t4, ?_, ?_, S, A, G, ?_⟩
            · show u2 (u2 (u2 (u2 D 16 0 1) 16 3 q1.1) 16 4 q2.1) 16 5 q4.1 15 = T
              rw [u2_row _ _ (by decide), u2_row _ _ (by decide), u2_row _ _ (by decide), u2_row _ _ (by decide), hD]
            · show u2 (u2 (u2 E 131 1 p1.1) 131 2 p2.1) 131 3 p4.1 127 = T
              rw [u2_row _ _ (by decide), u2_row _ _ (by decide), u2_row _ _ (by decide), hE]
            · dsimp only
              rw [v1, v2, v3, v4, v5, v6]
              have fD : ∀ b j, b ≠ 16 → u2 (u2 (u2 (u2 D 16 0 1) 16 3 (nI k)) 16 4 (nI iu)) 16 5 (nI ou) b j = D b j := fun b j n1 => by rw [u2_ne _ _ (fun z => n1 z.1), u2_ne _ _ (fun z => n1 z.1), u2_ne _ _ (fun z => n1 z.1), u2_ne _ _ (fun z => n1 z.1)]
              have fD2 : ∀ j, j ≠ 0 → j ≠ 3 → j ≠ 4 → j ≠ 5 → u2 (u2 (u2 (u2 D 16 0 1) 16 3 (nI k)) 16 4 (nI iu)) 16 5 (nI ou) 16 j = D 16 j := fun j n0 n3 n4 n5 => by rw [u2_ne _ _ (fun z => n5 z.2), u2_ne _ _ (fun z => n4 z.2), u2_ne _ _ (fun z => n3 z.2), u2_ne _ _ (fun z => n0 z.2)]
              have fE : ∀ b j, b ≠ 131 → u2 (u2 (u2 E 131 1 (nI k)) 131 2 (nI iu)) 131 3 (nI ou) b j = E b j := fun b j n1 => by rw [u2_ne _ _ (fun z => n1 z.1), u2_ne _ _ (fun z => n1 z.1), u2_ne _ _ (fun z => n1 z.1)]
              refine ⟨⟨b1, b2, b3⟩, ⟨?_, ?_, ?_, ?_, ?_, ?_⟩, fun q hq => ?_, fun i hi => ?_, fun g hg => ?_, Or.inr ⟨?_, k, iu, ou, hk, hiu, hou, ?_, ?_, ?_, ?_, ?_, ?_⟩⟩
              · rw [fD2 _ (by decide) (by decide) (by decide) (by decide)]; exact e1
              · rw [u2_ne _ _ (by decide), u2_ne _ _ (by decide), u2_ne _ _ (by decide)]; exact e2
              · rw [fD2 _ (by decide) (by decide) (by decide) (by decide)]; exact e3
              · rw [fE _ _ (by decide)]; exact e4
              · rw [fD2 _ (by decide) (by decide) (by decide) (by decide)]; exact e5
              · rw [fE _ _ (by decide)]; exact e6
              · rw [fD _ _ (by decide), fE _ _ (by decide)]; exact r1 q hq
              · have e9 : u2 (u2 (u2 (u2 D 16 0 1) 16 3 (nI k)) 16 4 (nI iu)) 16 5 (nI ou) (19 + i) = D (19 + i) := funext fun j => fD _ _ (by omega)
                have e8 : (fun j => u2 (u2 (u2 E 131 1 (nI k)) 131 2 (nI iu)) 131 3 (nI ou) 129 (7 + 6 * i + j)) = fun j => E 129 (7 + 6 * i + j) := funext fun j => fE _ _ (by decide)
                rw [e9, e8]
                exact r2 i hi
              · unfold gatQ
                rw [fD _ _ (by decide), fD _ _ (by decide), fE _ _ (by decide), fE _ _ (by decide)]
                exact r3 g hg
              · rw [u2_ne _ _ (by decide), u2_ne _ _ (by decide), u2_ne _ _ (by decide), u2_eq]
              · rw [u2_ne _ _ (by decide), u2_ne _ _ (by decide), u2_eq]
              · rw [u2_ne _ _ (by decide), u2_ne _ _ (by decide), u2_eq]
              · rw [u2_ne _ _ (by decide), u2_eq]
              · rw [u2_ne _ _ (by decide), u2_eq]
              · rw [u2_eq]
              · rw [u2_eq]
          · exact Or.inr (Or.inl hF)
          · exact Or.inr (Or.inr hP)
        · exact f3 hF
      · exact f2 hF
      · exact f3 (by rw [hq3, hp3]; exact rdS_p hP)
    · exact f2 (by rw [hq2, hp2]; exact rdL_f hF)
  · rw [if_neg (by rw [y1]; decide), if_neg (by rw [y7]; exact fun z => absurd (show nI b < 0 by rw [z]; decide) (nI_pos (by omega)))]
    have hF : FL (failP s 3) (nxR T L (wrR r 3)) := FL_n (TK_f h (by decide))
    obtain ⟨p1, hp1⟩ : ∃ p1, p1 = saR T L (nI S) (nxR T L (wrR r 3)) := ⟨_, rfl⟩
    rw [← hp1]
    have h1'' : FL (failP s 3) p1.2 := by
      rw [hp1]
      unfold saR
      rw [if_neg (by rw [hF.2.2.2]; decide)]
      exact FL_n (FL_w hF 1)
    obtain ⟨p2, hp2⟩ : ∃ p2, p2 = rlR T L 97 4 (L + 1) (0, p1.2) := ⟨_, rfl⟩
    rw [← hp2]
    have h2' : FL (failP s 3) p2.2 := by rw [hp2]; exact rl_F h1''
    obtain ⟨p3, hp3⟩ : ∃ p3, p3 = slR T L p2.2 := ⟨_, rfl⟩
    rw [← hp3]
    have h3' : FL (failP s 3) p3 := by
      rw [hp3]
      unfold slR
      rw [if_neg (fun z => by rw [h2'.2.2.2] at z; exact absurd z.1 (by decide))]
      exact FL_n (FL_w h2' 1)
    obtain ⟨p4, hp4⟩ : ∃ p4, p4 = rlR T L 112 3 (L + 1) (0, p3) := ⟨_, rfl⟩
    rw [← hp4]
    have h4' : FL (failP s 3) p4.2 := by rw [hp4]; exact rl_F h3'
    exact Or.inr (Or.inl h4')
end lines

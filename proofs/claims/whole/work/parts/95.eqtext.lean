/-! class and reference agree: ARCS, gates, the whole text -/
theorem kz1 : ∀ t, t < 64 → ∀ o, o < 64 → numC (nI o) (nI t ^^^ -1) 6 = numC (nI o) (63 &&& (nI t ^^^ -1)) 6 := by decide +kernel
section text
variable {T : Nat → Int32} {L : Nat}
theorem TK_zu {a : Nat} {s : Ps} {r : Rs} (h : TK T L a s r) : TK T L a (zUD s) r := h
theorem zUD_u (s : Ps) : (zUD s).2.2.2.2.2.1 = nI 0 ∧ (zUD s).2.2.2.2.2.2 = nI 0 := ⟨rfl, rfl⟩
theorem rdT_z (s : Ps) : rdTs T L 7 (zUD s) = rdT T L s := rfl
theorem FL_fn {s : Ps} {r : Rs} (h : FL s r) : fnR r = -1 := by unfold fnR; rw [FL_lt h, FL_lt h, if_pos rfl, if_pos rfl]
theorem FL_li {s : Ps} {r : Rs} (h : FL s r) : lit r = -1 := by unfold lit; rw [FL_lt h, FL_lt h, if_pos rfl, if_pos rfl]
/-- changes of inputs: some -/
theorem rdC_in (hT : isBy T) {a : Nat} {s : Ps} {r : Rs} (h : TK T L a s r) : (TK T L a (if (rdC T L 4 s).2.2.2.2.2.1 ||| (rdC T L 4 s).2.2.2.2.2.2 = 0 then failP (rdC T L 4 s) 1 else rdC T L 4 s) (rcR T L 97 4 (L + 1) (qcI r)) ∧ ∃ u d, u < 16 ∧ d < 16 ∧ UD (if (rdC T L 4 s).2.2.2.2.2.1 ||| (rdC T L 4 s).2.2.2.2.2.2 = 0 then failP (rdC T L 4 s) 1 else rdC T L 4 s) (rcR T L 97 4 (L + 1) (qcI r)) u d) ∨ FL (if (rdC T L 4 s).2.2.2.2.2.1 ||| (rdC T L 4 s).2.2.2.2.2.2 = 0 then failP (rdC T L 4 s) 1 else rdC T L 4 s) (rcR T L 97 4 (L + 1) (qcI r)) ∨ PD (if (rdC T L 4 s).2.2.2.2.2.1 ||| (rdC T L 4 s).2.2.2.2.2.2 = 0 then failP (rdC T L 4 s) 1 else rdC T L 4 s) (rcR T L 97 4 (L + 1) (qcI r)) := by
  have hz : TK T L a (zUD s) (zRS r) := TK_z h
  have hle : letP T L (zUD s) 4 = ltR (zRS r) 97 4 := (let_eq hT hz).1
  by_cases hl : letP T L (zUD s) 4 = -1
  · have eq : qcI r = wrR (zRS r) 1 := by unfold qcI; rw [if_pos (by rw [← hle]; exact hl)]
    have hF : FL (failP (zUD s) 1) (wrR (zRS r) 1) := TK_f hz (by decide)
    have es : (if (rdC T L 4 s).2.2.2.2.2.1 ||| (rdC T L 4 s).2.2.2.2.2.2 = 0 then failP (rdC T L 4 s) 1 else rdC T L 4 s) = failP (zUD s) 1 := by
      have ff : failP (failP (zUD s) 1) 1 = failP (zUD s) 1 := by
        have hn : ¬ (failP (zUD s) 1).1 = 0 := fail_n0 (by decide)
        rw [show failP (failP (zUD s) 1) 1 = if (failP (zUD s) 1).1 = 0 then (1, nI (failP (zUD s) 1).2.2.2.1, (failP (zUD s) 1).2.2) else failP (zUD s) 1 from rfl, if_neg hn]
      have ud0 : ∀ s' : Ps, s'.2.2 = (zUD s).2.2 → s'.2.2.2.2.2.1 ||| s'.2.2.2.2.2.2 = 0 := fun s' e => by rw [e]; show (0 : Int32) ||| 0 = 0; decide
      by_cases hw : (zUD s).2.2.1 = 1
      · have e1 : rdC T L 4 s = failP (zUD s) 1 := by
          unfold rdC
          show rdCs T L 4 (4 + 1) (zUD s) = _
          rw [rdCs, if_pos ⟨hz.1, hw⟩]
          have er : rdF T L 4 ((zUD s).2.2.2.2.2.1 ||| (zUD s).2.2.2.2.2.2) (zUD s) = (0, failP (zUD s) 1) := by
            unfold rdF
            rw [if_pos (by rw [hl]; decide)]
          have sg : ∀ c, sgnP T L (failP (zUD s) 1) c = false := fun c => by
            unfold sgnP
            rw [fail_k, hw, decide_eq_false (show ¬ (1 : Int32) = 3 by decide), Bool.false_and]
          have ec : chg2 T L (0, failP (zUD s) 1) = failP (zUD s) 1 := by
            unfold chg2
            dsimp only
            rw [sg, sg, if_neg Bool.false_ne_true, if_neg Bool.false_ne_true]
            exact ff
          have e0 : chg1 T L 4 (zUD s) = failP (zUD s) 1 := by
            unfold chg1
            rw [er, ec, if_neg (fail_n0 (by decide))]
          rw [e0, rdCs_f (fail_n0 (by decide))]
        rw [e1, if_pos (ud0 _ (fail_k _ _)), ff]
      · have e1 : rdC T L 4 s = zUD s := by
          unfold rdC
          show rdCs T L 4 (4 + 1) (zUD s) = _
          rw [rdCs, if_neg (fun z => hw z.2)]
        rw [e1, if_pos (ud0 _ rfl)]
    rw [es, eq, rc_stop (FL_lt hF _ _)]
    exact Or.inr (Or.inl hF)
  · have eq : qcI r = zRS r := by unfold qcI; rw [if_neg (by rw [← hle]; exact hl)]
    rw [eq]
    have o := rc_ok hT (i := 4) (nl := 4) (x := 97) (m := 4) (Or.inl ⟨rfl, rfl, rfl, rfl⟩) 5 (L + 1) 0 0 (zUD s) (zRS r) a hz ⟨rfl, rfl, rfl, rfl⟩ (by decide) (by decide) (by decide) (by omega)
    have es : rdCs T L 4 5 (zUD s) = rdC T L 4 s := rfl
    rw [es] at o
    rcases o with ⟨t, u, d, hu, hd, hUD, -, hnz, -⟩ | hF | hP
    · have hn : ¬ (rdC T L 4 s).2.2.2.2.2.1 ||| (rdC T L 4 s).2.2.2.2.2.2 = 0 := by
        rw [hUD.1, hUD.2.1, nI_or]
        have hor : u ||| d < 2 ^ 4 := or_lt hu hd
        exact fun z => hnz hl ((nI_eq (b := 0) (by omega) (by decide)).mp z)
      rw [if_neg hn]
      exact Or.inl ⟨t, u, d, hu, hd, hUD⟩
    · split
      · exact Or.inr (Or.inl (FL_p hF 1))
      · exact Or.inr (Or.inl hF)
    · split
      · exact Or.inr (Or.inr (PD_p hP 1))
      · exact Or.inr (Or.inr hP)
theorem rdC_inf {s : Ps} {r : Rs} (h : FL s r) : FL (if (rdC T L 4 s).2.2.2.2.2.1 ||| (rdC T L 4 s).2.2.2.2.2.2 = 0 then failP (rdC T L 4 s) 1 else rdC T L 4 s) (rcR T L 97 4 (L + 1) (qcI r)) := by
  have h' : FL (zUD s) (zRS r) := h
  have hq : FL (zUD s) (qcI r) := by
    unfold qcI
    split
    · exact FL_w h' 1
    · exact h'
  have hc : FL (rdC T L 4 s) (rcR T L 97 4 (L + 1) (qcI r)) := by
    unfold rdC
    rw [rdCs_f (by show ¬ s.1 = 0; rw [h.1]; exact psn0 h.2.1), rc_stop (FL_lt hq _ _)]
    exact hq
  split
  · exact FL_p hc 1
  · exact hc
/-- an ARC's LINE -/
theorem ln_arc (hT : isBy T) {a : Nat} {s : Ps} {r : Rs} {D E : Mi} (h : TK T L a s r) (hw : s.2.2.1 = 1) (hD : D 15 = T) (hE : E 127 = T) {S A G : Nat} (hR : dRl D E S A G) : LnO T L (a + 1) (raP L s D) (qaP L r E) := by
  obtain ⟨⟨b1, b2, b3⟩, ⟨e1, e2, e3, e4, e5, e6⟩, r1, r2, r3, r4⟩ := id hR
  have ca : cA D = A := by unfold cA; rw [e3, nI_clamp (by omega)]
  have ka : kA E = A := by unfold kA; rw [e4, nI_clamp (by omega)]
  have h1 := TK_n1 hT h (Or.inl hw)
  unfold raP qaP
  rw [hD, hE, e1, e2, ca, ka]
  dsimp only
  by_cases z : A < 8
  · rw [if_pos z, if_neg (show ¬ A = 8 by omega)]
    obtain ⟨q1, hq1⟩ : ∃ q1, q1 = rdN T L (nI S) (stepP T L s) := ⟨_, rfl⟩
    obtain ⟨p1, hp1⟩ : ∃ p1, p1 = saR T L (nI S) (nxR T L r) := ⟨_, rfl⟩
    have o1 := rdN_ok hT (show S < 1000 by omega) h1
    rw [← hq1, ← hp1] at o1 ⊢
    obtain ⟨q2, hq2⟩ : ∃ q2, q2 = rdN T L (nI S) q1.2 := ⟨_, rfl⟩
    obtain ⟨p2, hp2⟩ : ∃ p2, p2 = saR T L (nI S) p1.2 := ⟨_, rfl⟩
    rw [← hq2, ← hp2]
    obtain ⟨q4, hq4⟩ : ∃ q4, q4 = if (rdC T L 4 q2.2).2.2.2.2.2.1 ||| (rdC T L 4 q2.2).2.2.2.2.2.2 = 0 then failP (rdC T L 4 q2.2) 1 else rdC T L 4 q2.2 := ⟨_, rfl⟩
    obtain ⟨p4, hp4⟩ : ∃ p4, p4 = rcR T L 97 4 (L + 1) (qcI p2.2) := ⟨_, rfl⟩
    rw [← hq4, ← hp4]
    obtain ⟨q5, hq5⟩ : ∃ q5, q5 = rdS T L q4 := ⟨_, rfl⟩
    obtain ⟨p5, hp5⟩ : ∃ p5, p5 = slR T L p4 := ⟨_, rfl⟩
    rw [← hq5, ← hp5]
    obtain ⟨q6, hq6⟩ : ∃ q6, q6 = rdC T L 5 q5 := ⟨_, rfl⟩
    obtain ⟨p6, hp6⟩ : ∃ p6, p6 = rcR T L 112 3 (L + 1) (zRS p5) := ⟨_, rfl⟩
    rw [← hq6, ← hp6]
    have f5 : FL q5 p5 → FL q6 p6 := fun hF => by rw [hq6, hp6]; exact rdC_f hF
    have f4 : FL q4 p4 → FL q6 p6 := fun hF => f5 (by rw [hq5, hp5]; exact rdS_f hF)
    have f2 : FL q2.2 p2.2 → FL q6 p6 := fun hF => f4 (by rw [hq4, hp4]; exact rdC_inf hF)
    have f1 : FL q1.2 p1.2 → FL q6 p6 := fun hF => f2 (by rw [hq2, hp2]; exact rdN_f hF)
    rcases o1 with ⟨t1, kf, hkf, v1, v2⟩ | hF
    · have o2 := rdN_ok hT (show S < 1000 by omega) t1
      rw [← hq2, ← hp2] at o2
      rcases o2 with ⟨t2, kg, hkg, v3, v4⟩ | hF
      · have o4 := rdC_in hT t2
        rw [← hq4, ← hp4] at o4
        rcases o4 with ⟨t4, u, d, hu, hd, hUD⟩ | hF | hP
        · have o5 := rdS_ok hT t4
          rw [← hq5, ← hp5] at o5
          rcases o5 with t5 | hF
          · have o6 := rc_ok hT (i := 5) (nl := 3) (x := 112) (m := 3) (Or.inr ⟨rfl, rfl, rfl, rfl⟩) 4 (L + 1) 0 0 (zUD q5) (zRS p5) (a + 1) (TK_z t5) ⟨rfl, rfl, rfl, rfl⟩ (by decide) (by decide) (by decide) (by omega)
            have e6' : rdCs T L 5 4 (zUD q5) = q6 := hq6.symm
            rw [e6', ← hp6] at o6
            rcases o6 with ⟨t6, ou, od, hou, hod, hUD6, -⟩ | hF | hP
            · rw [if_neg (by rw [t6.2.1]; exact Int32.lt_irrefl)]
              obtain ⟨w1, w2, w3, w4⟩ := hUD
              obtain ⟨w5, w6, w7, w8⟩ := hUD6
              rw [v1, v2, v3, v4, w1, w2, w3, w4, w5, w6, w7, w8]
              obtain ⟨D2, hD2⟩ : ∃ D2, D2 = u2 (u2 (u2 (u2 (u2 (u2 (u2 D 16 6 (nI (A + 1))) (19 + A) 0 (nI kf)) (19 + A) 1 (nI kg)) (19 + A) 2 (nI u)) (19 + A) 3 (nI d)) (19 + A) 4 (nI ou)) (19 + A) 5 (nI od) := ⟨_, rfl⟩
              obtain ⟨E2, hE2⟩ : ∃ E2, E2 = u2 (u2 (u2 (u2 (u2 (u2 (u2 E 129 (7 + 6 * A) (nI kf)) 129 (7 + 6 * A + 1) (nI kg)) 129 (7 + 6 * A + 2) (nI u)) 129 (7 + 6 * A + 3) (nI d)) 129 (7 + 6 * A + 4) (nI ou)) 129 (7 + 6 * A + 5) (nI od)) 129 6 (nI (A + 1)) := ⟨_, rfl⟩
              rw [← hD2, ← hE2]
              have fD : ∀ b j, b ≠ 19 + A → ¬ (b = 16 ∧ j = 6) → D2 b j = D b j := fun b j n1 n2 => by rw [hD2, u2_ne _ _ (fun z => n1 z.1), u2_ne _ _ (fun z => n1 z.1), u2_ne _ _ (fun z => n1 z.1), u2_ne _ _ (fun z => n1 z.1), u2_ne _ _ (fun z => n1 z.1), u2_ne _ _ (fun z => n1 z.1), u2_ne _ _ n2]
              have fE : ∀ b j, ¬ (b = 129 ∧ 7 + 6 * A ≤ j ∧ j < 13 + 6 * A) → ¬ (b = 129 ∧ j = 6) → E2 b j = E b j := fun b j n1 n2 => by rw [hE2, u2_ne _ _ n2, u2_ne _ _ (by omega), u2_ne _ _ (by omega), u2_ne _ _ (by omega), u2_ne _ _ (by omega), u2_ne _ _ (by omega), u2_ne _ _ (by omega)]
              have dA : D2 16 6 = nI (A + 1) := by rw [hD2, u2_ne _ _ (by omega), u2_ne _ _ (by omega), u2_ne _ _ (by omega), u2_ne _ _ (by omega), u2_ne _ _ (by omega), u2_ne _ _ (by omega), u2_eq]
              have d0 : D2 (19 + A) 0 = nI kf := by rw [hD2, u2_ne _ _ (by omega), u2_ne _ _ (by omega), u2_ne _ _ (by omega), u2_ne _ _ (by omega), u2_ne _ _ (by omega), u2_eq]
              have d1 : D2 (19 + A) 1 = nI kg := by rw [hD2, u2_ne _ _ (by omega), u2_ne _ _ (by omega), u2_ne _ _ (by omega), u2_ne _ _ (by omega), u2_eq]
              have d2 : D2 (19 + A) 2 = nI u := by rw [hD2, u2_ne _ _ (by omega), u2_ne _ _ (by omega), u2_ne _ _ (by omega), u2_eq]
              have d3 : D2 (19 + A) 3 = nI d := by rw [hD2, u2_ne _ _ (by omega), u2_ne _ _ (by omega), u2_eq]
              have d4 : D2 (19 + A) 4 = nI ou := by rw [hD2, u2_ne _ _ (by omega), u2_eq]
              have d5 : D2 (19 + A) 5 = nI od := by rw [hD2, u2_eq]
              have g0 : E2 129 (7 + 6 * A + 0) = nI kf := by rw [hE2, u2_ne _ _ (by omega), u2_ne _ _ (by omega), u2_ne _ _ (by omega), u2_ne _ _ (by omega), u2_ne _ _ (by omega), u2_ne _ _ (by omega)]; exact u2_eq _ _ _ _
              have g1 : E2 129 (7 + 6 * A + 1) = nI kg := by rw [hE2, u2_ne _ _ (by omega), u2_ne _ _ (by omega), u2_ne _ _ (by omega), u2_ne _ _ (by omega), u2_ne _ _ (by omega), u2_eq]
              have g2 : E2 129 (7 + 6 * A + 2) = nI u := by rw [hE2, u2_ne _ _ (by omega), u2_ne _ _ (by omega), u2_ne _ _ (by omega), u2_ne _ _ (by omega), u2_eq]
              have g3 : E2 129 (7 + 6 * A + 3) = nI d := by rw [hE2, u2_ne _ _ (by omega), u2_ne _ _ (by omega), u2_ne _ _ (by omega), u2_eq]
              have g4 : E2 129 (7 + 6 * A + 4) = nI ou := by rw [hE2, u2_ne _ _ (by omega), u2_ne _ _ (by omega), u2_eq]
              have g5 : E2 129 (7 + 6 * A + 5) = nI od := by rw [hE2, u2_ne _ _ (by omega), u2_eq]
              have gA : E2 129 6 = nI (A + 1) := by rw [hE2, u2_eq]
              have hdR : dRl D2 E2 S (A + 1) G := by
                refine ⟨⟨b1, by omega, b3⟩, ⟨?_, ?_, dA, gA, ?_, ?_⟩, fun q hq => ?_, fun i hi => ?_, fun g hg => ?_, ?_⟩
                · rw [fD _ _ (by omega) (by omega)]; exact e1
                · rw [fE _ _ (by omega) (by omega)]; exact e2
                · rw [fD _ _ (by omega) (by omega)]; exact e5
                · rw [fE _ _ (by omega) (by omega)]; exact e6
                · rw [fD _ _ (by omega) (by omega), fE _ _ (by omega) (by omega)]; exact r1 q hq
                · rcases Nat.lt_or_ge i A with y | y
                  · have e9 : D2 (19 + i) = D (19 + i) := funext fun j => fD _ _ (by omega) (by omega)
                    obtain ⟨f', g', u', v', o', p', y1, y2, y3, y4, y5, y6, y7, y8, y9, y10, y11, y12, y13⟩ := r2 i y
                    show arcQ S (D2 (19 + i)) _
                    rw [e9]
                    exact ⟨f', g', u', v', o', p', y1, y2, y3, y4, y5, y6, y7, y8, y9, y10, y11, y12, fun j hj => by
                      show E2 129 (7 + 6 * i + j) = _
                      rw [fE _ _ (by omega) (by omega)]
                      exact y13 j hj⟩
                  · obtain rfl : i = A := by omega
                    refine ⟨kf, kg, u, d, ou, od, hkf, hkg, hu, hd, hou, hod, d0, d1, d2, d3, d4, d5, fun j hj => ?_⟩
                    show E2 129 (7 + 6 * i + j) = D2 (19 + i) j
                    rcases k6 hj with rfl | rfl | rfl | rfl | rfl | rfl
                    · rw [d0]; exact g0
                    · rw [d1]; exact g1
                    · rw [d2]; exact g2
                    · rw [d3]; exact g3
                    · rw [d4]; exact g4
                    · rw [d5]; exact g5
                · obtain ⟨f, c, y1, y2, y3, y4, y5, y6⟩ := r3 g hg
                  refine ⟨f, c, y1, y2, ?_, ?_, ?_, ?_⟩
                  · show D2 27 g = _
                    rw [fD _ _ (by omega) (by omega)]; exact y3
                  · show D2 28 g = _
                    rw [fD _ _ (by omega) (by omega)]; exact y4
                  · show E2 129 _ = _
                    rw [fE _ _ (by omega) (by omega)]; exact y5
                  · show E2 129 _ = _
                    rw [fE _ _ (by omega) (by omega)]; exact y6
                · show begQ D2 E2 S
                  unfold begQ
                  rw [fD 16 0 (by omega) (by decide), fD 16 3 (by omega) (by decide), fD 16 4 (by omega) (by decide), fD 16 5 (by omega) (by decide), fE 131 1 (by omega) (by decide), fE 131 2 (by omega) (by decide), fE 131 3 (by omega) (by decide)]
                  exact r4
              exact Or.inl ⟨t6, by rw [← hD]; exact funext fun j => fD _ _ (by omega) (by omega), by rw [← hE]; exact funext fun j => fE _ _ (by omega) (by omega), S, A + 1, G, hdR⟩
            · exact Or.inr (Or.inl hF)
            · exact Or.inr (Or.inr hP)
          · exact Or.inr (Or.inl (f5 hF))
        · exact Or.inr (Or.inl (f4 hF))
        · exact Or.inr (Or.inl (f5 (by rw [hq5, hp5]; exact rdS_p hP)))
      · exact Or.inr (Or.inl (f2 hF))
    · exact Or.inr (Or.inl (f1 hF))
  · rw [if_neg z, if_pos (show A = 8 by omega)]
    have hF : FL (failP s 5) (nxR T L (wrR r 5)) := FL_n (TK_f h (by decide))
    have sa : ∀ r, FL (failP s 5) r → FL (failP s 5) (saR T L (nI S) r).2 := fun r hF => by
      unfold saR
      rw [if_neg (by rw [hF.2.2.2]; decide)]
      exact FL_n (FL_w hF 1)
    obtain ⟨p1, hp1⟩ : ∃ p1, p1 = saR T L (nI S) (nxR T L (wrR r 5)) := ⟨_, rfl⟩
    rw [← hp1]
    have h1' : FL (failP s 5) p1.2 := by rw [hp1]; exact sa _ hF
    obtain ⟨p2, hp2⟩ : ∃ p2, p2 = saR T L (nI S) p1.2 := ⟨_, rfl⟩
    rw [← hp2]
    have h2' : FL (failP s 5) p2.2 := by rw [hp2]; exact sa _ h1'
    have hq : FL (failP s 5) (qcI p2.2) := by
      unfold qcI
      split
      · exact FL_w h2' 1
      · exact h2'
    obtain ⟨p3, hp3⟩ : ∃ p3, p3 = rcR T L 97 4 (L + 1) (qcI p2.2) := ⟨_, rfl⟩
    rw [← hp3]
    have h3' : FL (failP s 5) p3 := by rw [hp3]; exact rc_F hq
    obtain ⟨p4, hp4⟩ : ∃ p4, p4 = slR T L p3 := ⟨_, rfl⟩
    rw [← hp4]
    have h4' : FL (failP s 5) p4 := by
      rw [hp4]
      unfold slR
      rw [if_neg (fun z => by rw [h3'.2.2.2] at z; exact absurd z.1 (by decide))]
      exact FL_n (FL_w h3' 1)
    have h4'' : FL (failP s 5) (zRS p4) := h4'
    obtain ⟨p5, hp5⟩ : ∃ p5, p5 = rcR T L 112 3 (L + 1) (zRS p4) := ⟨_, rfl⟩
    rw [← hp5]
    have h5' : FL (failP s 5) p5 := by rw [hp5]; exact rc_F h4''
    exact Or.inr (Or.inl h5')
/-- a gate's LINE -/
theorem ln_gate (hT : isBy T) {a : Nat} {s : Ps} {r : Rs} {D E : Mi} (h : TK T L a s r) (hw : s.2.2.1 = 1) (hD : D 15 = T) (hE : E 127 = T) {S A G : Nat} (hR : dRl D E S A G) : LnO T L (a + 1) (rgP L s D) (qgP L r E) := by
  obtain ⟨⟨b1, b2, b3⟩, ⟨e1, e2, e3, e4, e5, e6⟩, r1, r2, r3, r4⟩ := id hR
  have cg : cG D = G := by unfold cG; rw [e5, nI_clamp (by omega)]
  have kg : kG E = G := by unfold kG; rw [e6, nI_clamp (by omega)]
  have h1 := TK_n1 hT h (Or.inl hw)
  unfold rgP qgP
  rw [hD, hE, cg, kg]
  dsimp only
  by_cases z : G < 16
  · rw [if_pos z, if_neg (show ¬ G = 16 by omega)]
    have hle : letP T L (stepP T L s) 6 = fnR (nxR T L r) := (let_eq hT h1).2.2.2
    have hrg := let_rng hT h1 (i := 6) (nl := 5) (Or.inr (Or.inr (Or.inr ⟨rfl, rfl⟩)))
    rcases hrg with hr | ⟨hw1, f, hf, hr⟩
    · have hF : FL (failP (stepP T L s) 1) (nxR T L (wrR (nxR T L r) 1)) := FL_n (TK_f h1 (by decide))
      rw [if_pos (by rw [hr]; decide), if_pos (by rw [← hle]; exact hr), rg_stop (by exact FL_li hF)]
      exact Or.inr (Or.inl hF)
    · have hge : ¬ letP T L (stepP T L s) 6 < 0 := by rw [hr]; exact nI_pos (by omega)
      have hne : ¬ fnR (nxR T L r) = -1 := by rw [← hle, hr]; exact fun y => absurd (show nI f < 0 by rw [y]; decide) (nI_pos (by omega))
      rw [if_neg hge, if_neg hne, hr, show fnR (nxR T L r) = nI f by rw [← hle]; exact hr]
      have h2 := TK_n1 hT h1 (Or.inl hw1)
      have h2z := TK_zu h2
      have o := rt_ok hT 7 (L + 1) 0 0 (zUD (stepP T L (stepP T L s))) (nxR T L (nxR T L r)) (a + 1 + 1) h2z (zUD_u _).1 (zUD_u _).2 (by decide) (by decide) (by decide) (by omega)
      obtain ⟨q, hq⟩ : ∃ q, q = rdT T L (stepP T L (stepP T L s)) := ⟨_, rfl⟩
      obtain ⟨p, hp⟩ : ∃ p, p = rgR T L (L + 1) (0, 0, nxR T L (nxR T L r)) := ⟨_, rfl⟩
      have eS : rdTs T L 7 (zUD (stepP T L (stepP T L s))) = q := (rdT_z _).trans hq.symm
      rw [show nI (0 ||| 0) = 0 by decide, show nI 0 = 0 by decide, eS, ← hp] at o
      rw [← hq, ← hp]
      rcases o with ⟨t, o', d', ho, hd, w1, w2, w3, w4⟩ | hF | hP
      · rw [if_neg (by rw [t.2.1]; exact Int32.lt_irrefl), w1, w2, w3, w4, nI_or]
        have hod : o' ||| d' < 64 := or_lt (n := 6) ho hd
        rw [← kz1 _ hod _ ho]
        obtain ⟨c, hc, ec⟩ := numC_in (nI o') (nI (o' ||| d') ^^^ -1)
        rw [ec]
        obtain ⟨D2, hD2⟩ : ∃ D2, D2 = u2 (u2 (u2 D 27 G (nI f)) 28 G (nI c)) 16 8 (nI (G + 1)) := ⟨_, rfl⟩
        obtain ⟨E2, hE2⟩ : ∃ E2, E2 = u2 (u2 (u2 E 129 (56 + 2 * G) (nI f)) 129 (56 + 2 * G + 1) (nI c)) 129 55 (nI (G + 1)) := ⟨_, rfl⟩
        rw [← hD2, ← hE2]
        have fD : ∀ b j, ¬ (b = 27 ∧ j = G) → ¬ (b = 28 ∧ j = G) → ¬ (b = 16 ∧ j = 8) → D2 b j = D b j := fun b j n1 n2 n3 => by rw [hD2, u2_ne _ _ n3, u2_ne _ _ n2, u2_ne _ _ n1]
        have fE : ∀ b j, ¬ (b = 129 ∧ (j = 56 + 2 * G ∨ j = 56 + 2 * G + 1 ∨ j = 55)) → E2 b j = E b j := fun b j n1 => by rw [hE2, u2_ne _ _ (by omega), u2_ne _ _ (by omega), u2_ne _ _ (by omega)]
        have hdR : dRl D2 E2 S A (G + 1) := by
          refine ⟨⟨b1, b2, by omega⟩, ⟨?_, ?_, ?_, ?_, ?_, ?_⟩, fun q hq => ?_, fun i hi => ?_, fun g hg => ?_, ?_⟩
          · rw [fD _ _ (by omega) (by omega) (by omega)]; exact e1
          · rw [fE _ _ (by omega)]; exact e2
          · rw [fD _ _ (by omega) (by omega) (by omega)]; exact e3
          · rw [fE _ _ (by omega)]; exact e4
          · rw [hD2, u2_eq]
          · rw [hE2, u2_eq]
          · rw [fD _ _ (by omega) (by omega) (by omega), fE _ _ (by omega)]; exact r1 q hq
          · have e9 : D2 (19 + i) = D (19 + i) := funext fun j => fD _ _ (by omega) (by omega) (by omega)
            obtain ⟨f', g', u', v', o', p', y1, y2, y3, y4, y5, y6, y7, y8, y9, y10, y11, y12, y13⟩ := r2 i hi
            show arcQ S (D2 (19 + i)) _
            rw [e9]
            exact ⟨f', g', u', v', o', p', y1, y2, y3, y4, y5, y6, y7, y8, y9, y10, y11, y12, fun j hj => by
              show E2 129 (7 + 6 * i + j) = _
              rw [fE _ _ (by omega)]
              exact y13 j hj⟩
          · rcases Nat.lt_or_ge g G with y | y
            · obtain ⟨f', c', y1, y2, y3, y4, y5, y6⟩ := r3 g y
              refine ⟨f', c', y1, y2, ?_, ?_, ?_, ?_⟩
              · show D2 27 g = _
                rw [fD _ _ (by omega) (by omega) (by omega)]; exact y3
              · show D2 28 g = _
                rw [fD _ _ (by omega) (by omega) (by omega)]; exact y4
              · show E2 129 _ = _
                rw [fE _ _ (by omega)]; exact y5
              · show E2 129 _ = _
                rw [fE _ _ (by omega)]; exact y6
            · obtain rfl : g = G := by omega
              refine ⟨f, c, hf, hc, ?_, ?_, ?_, ?_⟩
              · show D2 27 g = _
                rw [hD2, u2_ne _ _ (by omega), u2_ne _ _ (by omega), u2_eq]
              · show D2 28 g = _
                rw [hD2, u2_ne _ _ (by omega), u2_eq]
              · show E2 129 (56 + 2 * g) = _
                rw [hE2, u2_ne _ _ (by omega), u2_ne _ _ (by omega), u2_eq]
              · show E2 129 (57 + 2 * g) = _
                rw [show 57 + 2 * g = 56 + 2 * g + 1 by omega, hE2, u2_ne _ _ (by omega), u2_eq]
          · show begQ D2 E2 S
            unfold begQ
            rw [fD 16 0 (by omega) (by omega) (by decide), fD 16 3 (by omega) (by omega) (by decide), fD 16 4 (by omega) (by omega) (by decide), fD 16 5 (by omega) (by omega) (by decide), fE 131 1 (by omega), fE 131 2 (by omega), fE 131 3 (by omega)]
            exact r4
        exact Or.inl ⟨TK_a (by omega) t, by rw [← hD]; exact funext fun j => fD _ _ (by omega) (by omega) (by omega), by rw [← hE]; exact funext fun j => fE _ _ (by omega), S, A, G + 1, hdR⟩
      · exact Or.inr (Or.inl hF)
      · exact Or.inr (Or.inr hP)
  · rw [if_neg z, if_pos (show G = 16 by omega)]
    have hF : FL (failP s 5) (nxR T L (wrR r 5)) := FL_n (TK_f h (by decide))
    have hF2 : FL (failP s 5) (nxR T L (wrR (nxR T L (wrR r 5)) 1)) := FL_n (FL_w hF 1)
    rw [if_pos (FL_fn hF), rg_stop (by exact FL_li hF2)]
    exact Or.inr (Or.inl hF2)
/-- one LINE -/
theorem ln_ok (hT : isBy T) {a : Nat} {s : Ps} {r : Rs} {D E : Mi} (h : TK T L a s r) (hD : D 15 = T) (hE : E 127 = T) {S A G : Nat} (hR : dRl D E S A G) : LnO T L (a + 1) (lnP L (s, D)) (qlP L (r, E)) := by
  subst hD
  unfold lnP qlP
  dsimp only
  have wk : ∀ i, wrdP (D 15) L s i = true → s.2.2.1 = 1 := fun i z => by
    unfold wrdP at z
    exact of_decide_eq_true ((Bool.and_eq_true _ _).mp z).1
  have w0 := wd_eq hT h (i := 0) (by decide)
  have w1 := wd_eq hT h (i := 1) (by decide)
  have w2 := wd_eq hT h (i := 2) (by decide)
  have w3 := wd_eq hT h (i := 3) (by decide)
  by_cases c0 : r.2.2.2.1 = 2 ∧ r.2.2.2.2.2.1 = pkS 0 (x_sl' 0)
  · rw [decide_eq_true c0] at w0
    rw [if_pos w0, if_pos c0]
    exact ln_state hT h (wk 0 w0) rfl hE hR
  · rw [decide_eq_false c0] at w0
    rw [if_neg (by rw [w0]; exact Bool.false_ne_true), if_neg c0]
    by_cases c1 : r.2.2.2.1 = 2 ∧ r.2.2.2.2.2.1 = pkS 1 (x_sl' 1)
    · rw [decide_eq_true c1] at w1
      rw [if_pos w1, if_pos c1]
      exact ln_begin hT h (wk 1 w1) rfl hE hR
    · rw [decide_eq_false c1] at w1
      rw [if_neg (by rw [w1]; exact Bool.false_ne_true), if_neg c1]
      by_cases c2 : r.2.2.2.1 = 2 ∧ r.2.2.2.2.2.1 = pkS 2 (x_sl' 2)
      · rw [decide_eq_true c2] at w2
        rw [if_pos w2, if_pos c2]
        exact ln_arc hT h (wk 2 w2) rfl hE hR
      · rw [decide_eq_false c2] at w2
        rw [if_neg (by rw [w2]; exact Bool.false_ne_true), if_neg c2]
        by_cases c3 : r.2.2.2.1 = 2 ∧ r.2.2.2.2.2.1 = pkS 3 (x_sl' 3)
        · rw [decide_eq_true c3] at w3
          rw [if_pos w3, if_pos c3]
          exact ln_gate hT h (wk 3 w3) rfl hE hR
        · rw [decide_eq_false c3] at w3
          rw [if_neg (by rw [w3]; exact Bool.false_ne_true), if_neg c3]
          exact Or.inr (Or.inl (TK_f h (by decide)))
/-- all LINES -/
theorem lp_ok (hT : isBy T) : ∀ n k1 k2 a s r D E, TK T L a s r → D 15 = T → E 127 = T → (∃ S A G, dRl D E S A G) → L - a ≤ n → n ≤ k1 → n ≤ k2 → LnO T L a (lpP L (k1 + 1) (s, D)) (qpP L k2 (qlP L (r, E))) := by
  intro n
  induction n with
  | zero =>
    intro k1 k2 a s r D E h hD hE ⟨S, A, G, hR⟩ hn h1 h2
    have o := ln_ok hT h hD hE hR
    have hst : ¬ ((lnP L (s, D)).1.1 = 0 ∧ sgnP ((lnP L (s, D)).2 15) L (lnP L (s, D)).1 59 = true) ∧ ¬ ((qlP L (r, E)).1.2.2.2.1 = 4 ∧ (qlP L (r, E)).1.2.2.2.2.1 = 59) := by
      rcases o with ⟨t, -⟩ | hF | hP
      · obtain ⟨p, p1, p2⟩ := TK_p t
        omega
      · exact ⟨fun z => by rw [hF.1] at z; exact psn0 hF.2.1 z.1, fun z => by rw [hF.2.2.2] at z; exact absurd z.1 (by decide)⟩
      · exact ⟨fun z => by rw [hP.1] at z; exact absurd z.1 (by decide), fun z => by rw [hP.2.2.2] at z; exact absurd z.1 (by decide)⟩
    rw [lpP, if_neg hst.1]
    have eq : qpP L k2 (qlP L (r, E)) = qlP L (r, E) := by
      cases k2 with
      | zero => rfl
      | succ k => rw [qpP, if_neg hst.2]
    rw [eq]
    rcases o with ⟨t, q⟩ | q
    · exact Or.inl ⟨TK_a (by omega) t, q⟩
    · exact Or.inr q
  | succ n ih =>
    intro k1 k2 a s r D E h hD hE ⟨S, A, G, hR⟩ hn h1 h2
    have o := ln_ok hT h hD hE hR
    obtain ⟨q, hq⟩ : ∃ q, q = lnP L (s, D) := ⟨_, rfl⟩
    obtain ⟨z, hz⟩ : ∃ z, z = qlP L (r, E) := ⟨_, rfl⟩
    rw [← hq, ← hz] at o
    rw [lpP, ← hq, ← hz]
    have stop : ¬ (q.1.1 = 0 ∧ sgnP (q.2 15) L q.1 59 = true) → ¬ (z.1.2.2.2.1 = 4 ∧ z.1.2.2.2.2.1 = 59) → LnO T L a (if q.1.1 = 0 ∧ sgnP (q.2 15) L q.1 59 = true then lpP L k1 (stepP (q.2 15) L q.1, q.2) else q) (qpP L k2 z) := fun n1 n2 => by
      rw [if_neg n1]
      have eq : qpP L k2 z = z := by
        cases k2 with
        | zero => rfl
        | succ k => rw [qpP, if_neg n2]
      rw [eq]
      rcases o with ⟨t, q⟩ | q
      · exact Or.inl ⟨TK_a (by omega) t, q⟩
      · exact Or.inr q
    rcases id o with ⟨t, q1, z1, hR2⟩ | hF | hP
    · have sg := sg_eq hT t 59
      by_cases c : z.1.2.2.2.1 = 4 ∧ z.1.2.2.2.2.1 = 59
      · rw [decide_eq_true c] at sg
        obtain ⟨k1', rfl⟩ : ∃ k, k1 = k + 1 := ⟨k1 - 1, by omega⟩
        obtain ⟨k2', rfl⟩ : ∃ k, k2 = k + 1 := ⟨k2 - 1, by omega⟩
        rw [if_pos ⟨t.1, by rw [q1]; exact sg⟩, qpP, if_pos c, q1, z1]
        have hk3 : q.1.2.2.1 = 3 := sg_kind (T := T) (L := L) (Or.inr (Or.inr (Or.inr (Or.inr sg))))
        have t2 := TK_n1 hT t (Or.inr (Or.inr hk3))
        rcases ih k1' k2' (a + 1 + 1) (stepP T L q.1) (nxR T L z.1) q.2 z.2 t2 q1 z1 hR2 (by omega) (by omega) (by omega) with ⟨t3, y⟩ | y
        · exact Or.inl ⟨TK_a (by omega) t3, y⟩
        · exact Or.inr y
      · rw [decide_eq_false c] at sg
        exact stop (fun y => by rw [q1, sg] at y; exact absurd y.2 (by decide)) c
    · exact stop (fun y => by rw [hF.1] at y; exact psn0 hF.2.1 y.1) (fun y => by rw [hF.2.2.2] at y; exact absurd y.1 (by decide))
    · exact stop (fun y => by rw [hP.1] at y; exact absurd y.1 (by decide)) (fun y => by rw [hP.2.2.2] at y; exact absurd y.1 (by decide))
/-- the first TOKEN -/
theorem TK_0 (hT : isBy T) {s : Ps} {r : Rs} (h1 : s.1 = 0) (h2 : r.1 = 0) (h3 : s.2.2.2.2.1 = 0) (h4 : r.2.2.1 = 0) : TK T L 0 (stepP T L s) (nxR T L r) := by
  have e := sk_eq (L := L) hT (L - 0) 0 (by omega)
  have hle := row_le (T := T) (L := L) 32 32 (L - 0) 0 (by omega)
  unfold stepP nxR
  rw [if_neg (by rw [h2]; exact Int32.lt_irrefl), h3, h4]
  refine ⟨h1, ?_, tkS T L 0, Nat.zero_le _, hle.2, rfl, ?_, ?_⟩
  · unfold nxQ
    split
    · exact h2
    · split
      · exact h2
      · split
        · exact h2
        · exact h2
  · show (nxQ T L (skR T L (L - 0) 0) r).2.1 = _
    rw [← e]
    unfold nxQ
    split
    · rfl
    · split
      · rfl
      · split
        · rfl
        · rfl
  · show tkc T L (tkS T L 0) (tokQ T L (tkS T L 0)).1 (tokQ T L (tkS T L 0)).2 (nxQ T L (skR T L (L - 0) 0) r).2.2.2.1 (nxQ T L (skR T L (L - 0) 0) r).2.2.1 (nxQ T L (skR T L (L - 0) 0) r).2.2.2.2.1 (nxQ T L (skR T L (L - 0) 0) r).2.2.2.2.2.1
    rw [← e]
    exact tok_c hT hle.2 r
/-- the whole text: the same FAULT at the same place, or the same MACHINE -/
theorem read_E (hT : isBy T) {s : Ps} {r : Rs} {D E : Mi} (h1 : s.1 = 0) (h2 : r.1 = 0) (h3 : s.2.2.2.2.1 = 0) (h4 : r.2.2.1 = 0) (hD : D 15 = T) (hE : E 127 = T) (hR : dRl D E 0 0 0) : ((rdsP L (s, D)).1.1 = 0 ∧ (qrP L (r, E)).1.1 = 0 ∧ (∃ S A G, dRl (rdsP L (s, D)).2 (qrP L (r, E)).2 S A G) ∧ (rdsP L (s, D)).2 16 0 = 1) ∨ FL (rdsP L (s, D)).1 (qrP L (r, E)).1 := by
  have t0 := TK_0 (L := L) hT h1 h2 h3 h4
  have o := lp_ok hT L L (L + 1) 0 (stepP T L s) (nxR T L r) D E t0 hD hE ⟨0, 0, 0, hR⟩ (by omega) (Nat.le_refl _) (by omega)
  unfold rdsP qrP
  dsimp only
  rw [hD, hE]
  obtain ⟨q, hq⟩ : ∃ q, q = lpP L (L + 1) (stepP T L s, D) := ⟨_, rfl⟩
  obtain ⟨z, hz⟩ : ∃ z, z = qpP L (L + 1) (qlP L (nxR T L r, E)) := ⟨_, rfl⟩
  rw [← hq, ← hz] at o ⊢
  have fl : FL q.1 z.1 → FL (enP q) (qeP z) := fun hF => by
    have hw : FL q.1 (if z.1.2.2.2.1 = 1 then z.1 else wrR z.1 1) := by
      rw [if_neg (by rw [hF.2.2.2]; decide)]
      exact FL_w hF 1
    have hq2 : FL (if q.1.2.2.1 = 0 then q.1 else failP q.1 1) (if z.1.2.2.2.1 = 1 then z.1 else wrR z.1 1) := by
      split
      · exact hw
      · exact FL_p hw 1
    have hne : ¬ ((if z.1.2.2.2.1 = 1 then z.1 else wrR z.1 1).1 = 0 ∧ z.2 131 1 = -1) := fun y => psn0 hw.2.1 y.1
    unfold enP qeP
    dsimp only
    rw [if_neg hne]
    split
    · exact FL_p hq2 6
    · exact hq2
  rcases o with ⟨t, q1, z1, S, A, G, hR2⟩ | hF | hP
  · obtain ⟨-, -, -, -, -, hb⟩ := id hR2
    by_cases hk : q.1.2.2.1 = 0
    · have hk2 := (kd_end t).mp hk
      unfold enP qeP
      dsimp only
      rw [if_pos hk, if_pos hk2]
      rcases hb with ⟨y1, y2⟩ | ⟨y1, b, i, o, y3, y4, y5, y6, y7, y8⟩
      · rw [if_pos y1, if_pos ⟨t.2.1, y2⟩]
        exact Or.inr (TK_f t (by decide))
      · have hn : ¬ z.2 131 1 = -1 := by rw [y7]; exact fun y => absurd (show nI b < 0 by rw [y]; decide) (nI_pos (by have := hR2.1.1; omega))
        have hn0 : ¬ q.2 16 0 = 0 := by rw [y1]; decide
        have hne : ¬ (z.1.1 = 0 ∧ z.2 131 1 = -1) := fun y => hn y.2
        rw [if_neg hn0, if_neg hne]
        exact Or.inl ⟨t.1, t.2.1, ⟨S, A, G, hR2⟩, y1⟩
    · have hk2 : ¬ z.1.2.2.2.1 = 1 := fun y => hk ((kd_end t).mpr y)
      have hF : FL (failP q.1 1) (wrR z.1 1) := TK_f t (by decide)
      have hne : ¬ ((wrR z.1 1).1 = 0 ∧ z.2 131 1 = -1) := fun y => psn0 hF.2.1 y.1
      unfold enP qeP
      dsimp only
      rw [if_neg hk, if_neg hk2, if_neg hne]
      split
      · exact Or.inr (FL_p hF 6)
      · exact Or.inr hF
  · exact Or.inr (fl hF)
  · have hk2 : ¬ z.1.2.2.2.1 = 1 := by rw [hP.2.2.2]; decide
    have hF : FL q.1 (wrR z.1 1) := PD_f hP
    have hne : ¬ ((wrR z.1 1).1 = 0 ∧ z.2 131 1 = -1) := fun y => psn0 hF.2.1 y.1
    unfold enP qeP
    dsimp only
    rw [if_neg hk2, if_neg hne]
    refine Or.inr ?_
    have hF2 : FL (if q.1.2.2.1 = 0 then q.1 else failP q.1 1) (wrR z.1 1) := by
      split
      · exact hF
      · exact FL_p hF 1
    split
    · exact FL_p hF2 6
    · exact hF2
end text

/-! codings, coding -/
section cd
variable {X : xG} {MI W W2 V : Mi} {ML B D : Nat → Nat → Int64} {MR : Nat → Nat → Option Nat} {r : Nat → Nat} {S A Gn b K u bi bo w f : Nat} {x y : Int32}
theorem inv_Fr (h : Inv MI ML MR r S A Gn b K u bi bo w) (hF : Fr MI V ML D) (h89 : ∀ c, 89 ≤ c → c ≤ 123 → V c = MI c ∧ D c = ML c) (h140 : ∀ c, 140 ≤ c → c ≤ 146 → V c = MI c) (hw : Iw V) (hg : Ig V A S) : Inv V D MR r S A Gn b K u bi bo w := by
  have g : ∀ b, 1 ≤ b → b ≤ 55 → V b = MI b := fun b z1 z2 => hF.1 b (by omega) (by omega) (by omega) (by omega) (by omega)
  have g2 : ∀ b, 125 ≤ b → b ≤ 138 → V b = MI b := fun b z1 z2 => hF.1 b (by omega) (by omega) (by omega) (by omega) (by omega)
  refine ⟨h.1, Bs_Fr h.1.2.2.1 hF h.2.1, hw, ?_, ?_, hg⟩
  · refine shI_cg ⟨?_, fun c hc => g c (by omega) (by omega), hF.2.2.2 49 (by omega), hF.2.2.2 58 (by omega)⟩ h89 h.2.2.2.1
    rw [g 1 (by omega) (by omega)]
  · exact rCc_cg (g2 128 (by omega) (by omega)) (g2 135 (by omega) (by omega)) (g2 136 (by omega) (by omega)) (hF.2.2.2 125 (by omega)) (hF.2.2.2 138 (by omega)) (rCc_U h140 h.2.2.2.2.1)
theorem cd_eq (h : Bs MI ML r S A Gn b K u bi bo w) : cdTr MI x = rcN MI (decide (¬ MI 124 20 = 0)) x ∧ cdNo MI x y = rcN MI (rIS MI y) x := by
  obtain ⟨-, -, hIc, h3⟩ := id h
  have e20 : MI 124 20 = MI 1 0 := hIc.2.1
  have e1 : MI 1 1 = MI 130 0 := hIc.2.2.2.1.1.trans hIc.2.2.2.1.2.symm
  have main : ¬ MI 1 0 = 0 → cdTr MI x = rcN MI true x := fun n1 => by
    have tl := Bs_told h n1
    have e6 : MI 43 6 = MI 124 27 := congrArg Prod.fst (Bs_g h tl).2.2.2
    have hv : MI 43 6 = 0 ∨ MI 43 6 = 1 ∨ MI 43 6 = 2 ∨ MI 43 6 = 3 ∨ MI 43 6 = 4 ∨ MI 43 6 = 5 ∨ MI 43 6 = 6 := by
      rcases (Bs_use h tl).2.2.2 with q | q | q
      · rcases q with q | q | q | q | q
        · exact Or.inl q
        · exact Or.inr (Or.inl q)
        · exact Or.inr (Or.inr (Or.inl q))
        · exact Or.inr (Or.inr (Or.inr (Or.inl q)))
        · exact Or.inr (Or.inr (Or.inr (Or.inr (Or.inl q))))
      · exact Or.inr (Or.inr (Or.inr (Or.inr (Or.inr (Or.inl q)))))
      · exact Or.inr (Or.inr (Or.inr (Or.inr (Or.inr (Or.inr q)))))
    have ei : (0 < MI 43 6 ∧ MI 43 6 < 5) ↔ inB (MI 43 6) 1 4 = true := by
      rcases hv with q | q | q | q | q | q | q <;> rw [q] <;> decide
    have ex : (¬ x < 1 ∧ ¬ (4 : Int32) < x) ↔ inB x 1 4 = true := by
      unfold inB
      rw [decide_eq_true_eq]
    unfold cdTr rcN
    rw [if_neg n1, if_neg (show ¬ true = false by decide), ← e6]
    by_cases c : inB (MI 43 6) 1 4 = true
    · rw [if_pos (ei.mpr c), if_pos c]
    · rw [if_neg (fun q => c (ei.mp q)), if_neg c]
      by_cases d : inB x 1 4 = true
      · rw [if_pos (ex.mpr d), if_pos d]
      · rw [if_neg (fun q => d (ex.mp q)), if_neg d]
  unfold cdNo rIS
  rw [e20, e1]
  by_cases n1 : MI 1 0 = 0
  · have d0 : decide (¬ MI 1 0 = 0) = false := decide_eq_false (fun q => q n1)
    have c1 : cdTr MI x = 1 := by unfold cdTr; rw [if_pos n1]
    rw [d0, Bool.false_and, c1]
    refine ⟨rfl, ?_⟩
    split <;> rfl
  · have d0 : decide (¬ MI 1 0 = 0) = true := decide_eq_true n1
    rw [d0, Bool.true_and]
    refine ⟨main n1, ?_⟩
    by_cases c : inR y (MI 130 0) = true
    · rw [if_pos c, c]; exact main n1
    · rw [if_neg c]
      have : inR y (MI 130 0) = false := Bool.eq_false_iff.mpr c
      rw [this]; rfl
theorem cdTr_N (h : Bs MI ML r S A Gn b K u bi bo w) (h0 : cdTr MI x = 0) : MI 1 0 = 1 ∧ (MI 43 6 = 0 ∨ ¬ ev4 (tgC MI)) ∧ ∃ N, 0 < N ∧ N ≤ 4 ∧ x = nI N := by
  unfold cdTr at h0
  have n1 : ¬ MI 1 0 = 0 := fun q => by rw [if_pos q] at h0; exact absurd h0 (by decide)
  rw [if_neg n1] at h0
  have n2 : ¬ (0 < MI 43 6 ∧ MI 43 6 < 5) := fun q => by rw [if_pos q] at h0; exact absurd h0 (by decide)
  rw [if_neg n2] at h0
  have n3 : ¬ x < 1 ∧ ¬ (4 : Int32) < x := Classical.byContradiction fun q => by rw [if_neg q] at h0; exact absurd h0 (by decide)
  refine ⟨Bs_told h n1, ?_, ?_⟩
  · by_cases z : MI 43 6 = 0
    · exact Or.inl z
    · refine Or.inr (fun q => ?_)
      have q' : MI 43 6 = 0 ∨ MI 43 6 = 1 ∨ MI 43 6 = 2 ∨ MI 43 6 = 3 ∨ MI 43 6 = 4 := q
      rcases q' with q | q | q | q | q
      · exact z q
      all_goals (rw [q] at n2; exact n2 (by decide))
  · have h5 : inB x 0 4 = true := by
      unfold inB
      refine decide_eq_true ⟨fun q => n3.1 ?_, n3.2⟩
      exact Int32.lt_trans q (by decide)
    obtain ⟨N, hN, rfl⟩ := inB_ex (N := 4) (by decide) h5
    refine ⟨N, ?_, by omega, rfl⟩
    rcases Nat.eq_zero_or_pos N with z | z
    · subst z; exact absurd (show (nI 0) < 1 by decide) n3.1
    · exact z
theorem cdTr_4 : ¬ cdTr MI x = 4 := by
  unfold cdTr
  (repeat' split) <;> first | exact (show ¬ (0 : Int32) = 4 by decide) | exact (show ¬ (1 : Int32) = 4 by decide) | exact (show ¬ (2 : Int32) = 4 by decide) | exact (show ¬ (3 : Int32) = 4 by decide) | exact (show ¬ (5 : Int32) = 4 by decide) | exact funTr_4 | exact fewTr_4
theorem sc_o {N : Nat} : (∀ c, c ≠ 60 → c ≠ 61 → c ≠ 63 → scM MI ML A S N c = MI c) ∧ (∀ c, c < 65 ∨ 84 < c → scL MI ML A S N c = ML c) ∧ scM MI ML A S N 60 5 = nI N := by
  unfold scM scL
  by_cases z : MI 60 5 = nI N
  · rw [if_pos z, if_pos z]
    exact ⟨fun _ _ _ _ => rfl, fun _ _ => rfl, z⟩
  · rw [if_neg z, if_neg z]
    refine ⟨fun c z1 z2 z3 => ?_, fun c hc => ?_, u2_eq _ _ _ _⟩
    · unfold laK
      rw [u2_row _ _ z1, sr_ne _ _ z3, sr_ne _ _ z2, u2_row _ _ z1]
    · funext j
      unfold laV
      rw [if_neg (by omega), if_neg (by omega)]
theorem ig_sc {N : Nat} (hN : 0 < N) (hN4 : N ≤ 4) (h : Bs MI ML r S A Gn b K u bi bo w) (tl : MI 1 0 = 1) (hv : MI 43 6 = 0 ∨ ¬ ev4 (tgC MI)) (hg : Ig MI A S) : Ig (scM MI ML A S N) A S := by
  unfold scM
  by_cases z : MI 60 5 = nI N
  · rw [if_pos z]; exact hg
  · rw [if_neg z]
    obtain ⟨-, -, hIc, -, ⟨m1, m2⟩, -⟩ := id h
    obtain ⟨a1, a2⟩ := arcs_ok m1.2.2.2.1
    have hf := ((Bs_use h tl).2.2.1 hv).2
    intro N' n1 n2 n3 I' O' V' Q q e1 e2 e3
    have n3' : nI N = nI N' := by rw [← n3]; exact (u2_eq _ _ _ _).symm
    have nn : N = N' := by
      have q := congrArg Int32.toNatClampNeg n3'
      rwa [nI_clamp (show N < 2 ^ 31 by omega), nI_clamp (show N' < 2 ^ 31 by omega)] at q
    subst nn
    have o : ∀ c, c ≠ 60 → c ≠ 61 → c ≠ 63 → u2 (laK MI (srK MI ML A S N)) 60 5 (nI N) c = MI c := fun c z1 z2 z3 => by
      unfold laK
      rw [u2_row _ _ z1, sr_ne _ _ z3, sr_ne _ _ z2, u2_row _ _ z1]
    rw [o 44 (by decide) (by decide) (by decide)] at e1
    rw [o 45 (by decide) (by decide) (by decide)] at e2
    have e3' : PE (arP MI) Q A := fun i hi j hj => by
      have := e3 i hi j hj
      rw [← this]
      show MI (4 + i) j = u2 (laK MI (srK MI ML A S N)) 60 5 (nI N) (4 + i) j
      have := hIc.2.2.1.2.1
      rw [o (4 + i) (by omega) (by omega) (by omega)]
    obtain ⟨s1, s2⟩ := search_eq (ML := ML) (V' := V') hIc.2.2.1.2.1 hIc.2.2.1.1 a1 e3' a2 hf e1 e2 hN hN4 q
    refine ⟨?_, fun t ht j hj => ?_⟩
    · rw [← s1]
      rw [u2_ne _ _ (by omega)]
      unfold laK
      rw [sr_ne _ _ (by decide), sr_ne _ _ (by decide)]
      exact u2_eq _ _ _ _
    · rw [← s2 t ht j hj, u2_row _ _ (by decide)]
      unfold laK
      rw [sr_eq]
/-- class's cells, then the reference's -/
theorem inv_cd {t : Int32} (h : Inv MI ML MR r S A Gn b K u bi bo w) (hW : ∀ c, c ≠ 60 → c ≠ 61 → c ≠ 63 → V c = MI c) (hD : ∀ c, c < 65 ∨ 84 < c → D c = ML c) (hg : Ig V A S) (hF : cdF (ansM V t) D W2 B) (h1 : W2 124 1 = t) (h4 : ¬ t = 4) : InvE W2 B MR := by
  obtain ⟨f1, f2, f3, f4, f5⟩ := hF
  have o : ∀ c, c ≠ 0 → c ≠ 60 → c ≠ 61 → c ≠ 63 → c ≠ 124 → c ≠ 150 → c ≠ 151 → W2 c = MI c := fun c z0 z1 z2 z3 z4 z5 z6 => by
    rw [f1 c z4 z5 z6]
    unfold ansM
    rw [u2_row _ _ z0, hW c z1 z2 z3]
  have o24 : ∀ j, 3 ≤ j → j ≠ 52 → W2 124 j = MI 124 j := fun j z1 z2 => by
    rw [f2 j (by omega) (by omega) (by omega) z2]
    unfold ansM
    rw [u2_row _ _ (by decide), hW 124 (by decide) (by decide) (by decide)]
  have oB : ∀ c, c < 65 ∨ (84 < c ∧ c ≠ 152 ∧ c ≠ 153) → B c = ML c := fun c hc => by rw [f3 c (by omega) (by omega), hD c (by omega)]
  have e0 : W2 0 8 = t ∧ W2 0 9 = MI 0 9 := by
    rw [f1 0 (by decide) (by decide) (by decide)]
    unfold ansM
    refine ⟨u2_eq _ _ _ _, ?_⟩
    rw [u2_ne _ _ (by omega), hW 0 (by decide) (by decide) (by decide)]
  refine ⟨r, S, A, Gn, b, K, u, bi, bo, w, inv_Fr h ⟨fun c z1 z2 z3 z4 z5 => o c z1 (by omega) (by omega) (by omega) (by omega) (by omega) (by omega), e0.2, fun j z1 _ _ z2 => o24 j z1 z2, fun c hc => oB c (by omega)⟩ (fun c z1 z2 => ⟨o c (by omega) (by omega) (by omega) (by omega) (by omega) (by omega) (by omega), oB c (by omega)⟩) (fun c z1 z2 => o c (by omega) (by omega) (by omega) (by omega) (by omega) (by omega) (by omega)) ⟨?_, ?_, ?_⟩ ?_⟩
  · rw [e0.1, h1]
  · rw [e0.1, if_neg h4, f5]
  · rw [e0.2, o24 12 (by decide) (by decide)]; exact h.2.2.1.2.2
  · have k : ∀ c, c ≠ 0 → c ≠ 124 → c ≠ 150 → c ≠ 151 → W2 c = V c := fun c z0 z4 z5 z6 => by
      rw [f1 c z4 z5 z6]
      unfold ansM
      rw [u2_row _ _ z0]
    exact Ig_cg (Inv_A h) (fun i hi => k _ (by omega) (by omega) (by omega) (by omega)) (k _ (by decide) (by decide) (by decide) (by decide)) (k _ (by decide) (by decide) (by decide) (by decide)) (k _ (by decide) (by decide) (by decide) (by decide)) (k _ (by decide) (by decide) (by decide) (by decide)) hg
theorem rcN_cg {bo0 : Bool} (h : V 124 27 = MI 124 27) : rcN V bo0 x = rcN MI bo0 x := by
  unfold rcN
  rw [h]
theorem two_codings (hSt : x_St X) (h : Inv MI ML MR r S A Gn b K u bi bo w) : Two X yX10_codings cX10_codings 3 (some .int) [.ref 0, .int x] yX11_codings cX11_codings 3 (some .int) [.ref 124, .int x] MI ML MR := by
  obtain ⟨hT, hIt, hIc, h3⟩ := id h.2.1
  have hm := Bs_m h.2.1
  by_cases z : cdTr MI x = 0
  · obtain ⟨tl, hv, N, hN, hN4, rfl⟩ := cdTr_N h.2.1 z
    have cN : (nI N).toNatClampNeg = N := nI_clamp (by omega)
    obtain ⟨s1, s2, s3⟩ := sc_o (MI := MI) (ML := ML) (A := A) (S := S) (N := N)
    have hg := ig_sc (ML := ML) hN hN4 h.2.1 tl hv h.2.2.2.2.2
    refine ⟨_, _, ?_, c_X10_codings h.1.1 hSt hIc.2.2.1.2.1 hIc.2.2.2.2.1.1 hIc.2.2.1.1 hIc.2.2.2.1.1 hN4 z, fun r0 W B C hz => ?_⟩
    · decide
    obtain ⟨rfl, rfl, rfl, rfl⟩ := hz
    obtain ⟨V, hV⟩ : ∃ V, V = scM MI ML A S N := ⟨_, rfl⟩
    obtain ⟨D, hD⟩ : ∃ D, D = scL MI ML A S N := ⟨_, rfl⟩
    rw [← hV] at s1 s3 hg
    rw [← hD] at s2
    rw [← hV, ← hD]
    have aR : ∀ c, c ≠ 0 → c ≠ 60 → c ≠ 61 → c ≠ 63 → ansM V 0 c = MI c := fun c z0 z1 z2 z3 => by
      unfold ansM
      rw [u2_row _ _ z0, s1 c z1 z2 z3]
    have eA : arR (ansM V 0) = arR MI := by
      funext i j
      show ansM V 0 128 _ = MI 128 _
      rw [aR 128 (by decide) (by decide) (by decide) (by decide)]
    have hm2 : rMc (ansM V 0) A S b := by
      obtain ⟨q1, q2, q3, q4, q5, q6⟩ := hm
      exact ⟨q1, q2, by rw [aR 128 (by decide) (by decide) (by decide) (by decide)]; exact q3, by rw [eA]; exact q4, q5, by rw [aR 130 (by decide) (by decide) (by decide) (by decide)]; exact q6⟩
    refine ⟨_, _, _, rfl, ?_, c_X11_codings h.1.1 hm2 (by rw [aR 130 (by decide) (by decide) (by decide) (by decide)]; exact hIc.2.2.2.1.2) (by rw [aR 124 (by decide) (by decide) (by decide) (by decide), hIc.2.1]; exact hIc.1), fun r2 W2 B2 C2 hy => ?_⟩
    · decide
    obtain ⟨rfl, hF, hP⟩ := hy
    have e0 : rcN (ansM V 0) (decide (¬ ansM V 0 124 20 = 0)) (nI N) = 0 := by
      rw [rcN_cg (MI := MI) (by rw [aR 124 (by decide) (by decide) (by decide) (by decide)]), aR 124 (by decide) (by decide) (by decide) (by decide), ← (cd_eq (y := 0) h.2.1).1]
      exact z
    rw [if_pos e0, cN] at hP
    have el := ((Bs_use h.2.1 tl).2.2.1 hv).1
    have tg := (Bs_g h.2.1 tl).2.1
    obtain ⟨-, -, -, -, ⟨m1, m2⟩, -⟩ := id h.2.1
    have hS := hIc.2.2.1.1
    obtain ⟨g1, -⟩ := hg N hN hN4 s3 (ansM V 0 135) (ansM V 0 136) (ansM V 0 128) (arR (ansM V 0)) (D 138, D 137) (fun s hs => by
      rw [s1 44 (by decide) (by decide) (by decide), aR 135 (by decide) (by decide) (by decide) (by decide)]
      exact (tg s (by omega) (el s hs)).1) (fun s hs => by
      rw [s1 45 (by decide) (by decide) (by decide), aR 136 (by decide) (by decide) (by decide) (by decide)]
      exact (tg s (by omega) (el s hs)).2) (fun i hi j hj => by
      rw [eA]
      have := hIc.2.2.1.2.1
      show V (4 + i) j = _
      rw [s1 (4 + i) (by omega) (by omega) (by omega)]
      exact vR_PE m2 i hi j hj)
    refine ⟨by rw [hP.1, g1], inv_cd h s1 s2 hg hF hP.2 (by decide)⟩
  · refine ⟨_, _, ?_, c_X10_codings_no h.1.1 z, fun r0 W B C hz => ?_⟩
    · decide
    obtain ⟨rfl, rfl, rfl, rfl⟩ := hz
    refine ⟨_, _, _, rfl, ?_, c_X11_codings h.1.1 (MI := ansM MI (cdTr MI x)) hm hIc.2.2.2.1.2 (by show MI 124 20 = 0 ∨ MI 124 20 = 1; rw [hIc.2.1]; exact hIc.1), fun r2 W2 B2 C2 hy => ?_⟩
    · decide
    obtain ⟨rfl, hF, hP⟩ := hy
    have e0 : rcN (ansM MI (cdTr MI x)) (decide (¬ ansM MI (cdTr MI x) 124 20 = 0)) x = cdTr MI x := (cd_eq (y := 0) h.2.1).1.symm
    rw [e0, if_neg z] at hP
    exact ⟨hP.1, inv_cd h (fun _ _ _ _ => rfl) (fun _ _ => rfl) h.2.2.2.2.2 hF hP.2 cdTr_4⟩
theorem two_coding (hSt : x_St X) (h : Inv MI ML MR r S A Gn b K u bi bo w) : Two X yX10_coding cX10_coding 4 (some .int) [.ref 0, .int x, .int y] yX11_coding cX11_coding 4 (some .int) [.ref 124, .int x, .int y] MI ML MR := by
  obtain ⟨hT, hIt, hIc, h3⟩ := id h.2.1
  have hm := Bs_m h.2.1
  have hS := hIc.2.2.1.1
  by_cases zz : inR y (MI 1 1) = true ∧ cdTr MI x = 0
  · obtain ⟨zy, z⟩ := id zz
    obtain ⟨tl, hv, N, hN, hN4, rfl⟩ := cdTr_N h.2.1 z
    have cN : (nI N).toNatClampNeg = N := nI_clamp (by omega)
    rw [hIc.2.2.2.1.1] at zy
    obtain ⟨s, hs, rfl⟩ := inR_ex (N := S) (by omega) (inR_t.mp zy).1 (inR_t.mp zy).2
    have cs : (nI s).toNatClampNeg = s := nI_clamp (by omega)
    obtain ⟨s1, s2, s3⟩ := sc_o (MI := MI) (ML := ML) (A := A) (S := S) (N := N)
    have hg := ig_sc (ML := ML) hN hN4 h.2.1 tl hv h.2.2.2.2.2
    refine ⟨_, _, ?_, c_X10_coding h.1.1 hSt hIc.2.2.1.2.1 hIc.2.2.2.2.1.1 hIc.2.2.1.1 hIc.2.2.2.1.1 hN4 hs z, fun r0 W B C hz => ?_⟩
    · decide
    obtain ⟨rfl, rfl, rfl, rfl⟩ := hz
    obtain ⟨V, hV⟩ : ∃ V, V = scM MI ML A S N := ⟨_, rfl⟩
    obtain ⟨D, hD⟩ : ∃ D, D = scL MI ML A S N := ⟨_, rfl⟩
    rw [← hV] at s1 s3 hg
    rw [← hD] at s2
    rw [← hV, ← hD]
    obtain ⟨t, ht⟩ : ∃ t : Int32, t = (if V 60 4 ≤ 0 then 1 else 0) := ⟨_, rfl⟩
    rw [← ht]
    have aR : ∀ c, c ≠ 0 → c ≠ 60 → c ≠ 61 → c ≠ 63 → ansM V t c = MI c := fun c z0 z1 z2 z3 => by
      unfold ansM
      rw [u2_row _ _ z0, s1 c z1 z2 z3]
    have eA : arR (ansM V t) = arR MI := by
      funext i j
      show ansM V t 128 _ = MI 128 _
      rw [aR 128 (by decide) (by decide) (by decide) (by decide)]
    have hm2 : rMc (ansM V t) A S b := by
      obtain ⟨q1, q2, q3, q4, q5, q6⟩ := hm
      exact ⟨q1, q2, by rw [aR 128 (by decide) (by decide) (by decide) (by decide)]; exact q3, by rw [eA]; exact q4, q5, by rw [aR 130 (by decide) (by decide) (by decide) (by decide)]; exact q6⟩
    refine ⟨_, _, _, rfl, ?_, c_X11_coding h.1.1 hm2 (by rw [aR 130 (by decide) (by decide) (by decide) (by decide)]; exact hIc.2.2.2.1.2), fun r2 W2 B2 C2 hy => ?_⟩
    · decide
    obtain ⟨rfl, hF, hP⟩ := hy
    have e0 : rcN (ansM V t) (rIS (ansM V t) (nI s)) (nI N) = 0 := by
      have eI : rIS (ansM V t) (nI s) = rIS MI (nI s) := by
        unfold rIS
        rw [aR 124 (by decide) (by decide) (by decide) (by decide), aR 130 (by decide) (by decide) (by decide) (by decide)]
      rw [rcN_cg (MI := MI) (by rw [aR 124 (by decide) (by decide) (by decide) (by decide)]), eI, ← (cd_eq h.2.1).2]
      unfold cdNo
      rw [if_pos zz.1]
      exact z
    rw [if_pos e0, cN, cs] at hP
    have el := ((Bs_use h.2.1 tl).2.2.1 hv).1
    have tg := (Bs_g h.2.1 tl).2.1
    obtain ⟨-, -, -, -, ⟨m1, m2⟩, -⟩ := id h.2.1
    obtain ⟨g1, g2⟩ := hg N hN hN4 s3 (ansM V t 135) (ansM V t 136) (ansM V t 128) (arR (ansM V t)) (D 138, D 137) (fun s hs => by
      rw [s1 44 (by decide) (by decide) (by decide), aR 135 (by decide) (by decide) (by decide) (by decide)]
      exact (tg s (by omega) (el s hs)).1) (fun s hs => by
      rw [s1 45 (by decide) (by decide) (by decide), aR 136 (by decide) (by decide) (by decide) (by decide)]
      exact (tg s (by omega) (el s hs)).2) (fun i hi j hj => by
      rw [eA]
      have := hIc.2.2.1.2.1
      show V (4 + i) j = _
      rw [s1 (4 + i) (by omega) (by omega) (by omega)]
      exact vR_PE m2 i hi j hj)
    have hpow : N ^ S ≤ 4096 := by
      have p1 : N ^ S ≤ 4 ^ S := Nat.pow_le_pow_left hN4 S
      have p2 : 4 ^ S ≤ 4 ^ 6 := Nat.pow_le_pow_right (by decide) hS
      have p3 : (4 : Nat) ^ 6 = 4096 := by decide
      omega
    have hole := owy_le (okT (ansM V t 135) (ansM V t 136) (ansM V t 128) (arR (ansM V t)) S A N (D 138, D 137)) (N ^ S)
    cases hf : (List.range (N ^ S)).find? (okT (ansM V t 135) (ansM V t 136) (ansM V t 128) (arR (ansM V t)) S A N (D 138, D 137)) with
    | none =>
      rw [hf] at hP
      have o0 := (owy_0 _).mpr hf
      rw [o0] at g1
      have c0 : V 60 4 ≤ 0 := by rw [g1]; decide
      rw [if_pos c0] at ht
      rw [if_pos c0]
      exact ⟨hP.1, inv_cd h s1 s2 hg hF (by rw [ht]; exact hP.2) (by rw [ht]; decide)⟩
    | some k =>
      rw [hf] at hP
      have o0 : ¬ owy (okT (ansM V t 135) (ansM V t 136) (ansM V t 128) (arR (ansM V t)) S A N (D 138, D 137)) (N ^ S) = 0 := fun q => by
        rw [(owy_0 _).mp q] at hf
        cases hf
      have c0 : ¬ V 60 4 ≤ 0 := by
        rw [g1]
        intro q
        exact o0 (by
          have q2 := (nI_leI (by omega) (by omega)).mp (show nI _ ≤ nI 0 from q)
          omega)
      rw [if_neg c0] at ht
      rw [if_neg c0, g2 k hf s hs]
      exact ⟨hP.1, inv_cd h s1 s2 hg hF (by rw [ht]; exact hP.2) (by rw [ht]; decide)⟩
  · refine ⟨_, _, ?_, c_X10_coding_no h.1.1 zz, fun r0 W B C hz => ?_⟩
    · decide
    obtain ⟨rfl, rfl, rfl, rfl⟩ := hz
    refine ⟨_, _, _, rfl, ?_, c_X11_coding h.1.1 (MI := ansM MI (cdNo MI x y)) hm hIc.2.2.2.1.2, fun r2 W2 B2 C2 hy => ?_⟩
    · decide
    obtain ⟨rfl, hF, hP⟩ := hy
    have e0 : rcN (ansM MI (cdNo MI x y)) (rIS (ansM MI (cdNo MI x y)) y) x = cdNo MI x y := (cd_eq h.2.1).2.symm
    have z : ¬ cdNo MI x y = 0 := fun q => by
      unfold cdNo at q
      by_cases c : inR y (MI 1 1) = true
      · rw [if_pos c] at q; exact zz ⟨c, q⟩
      · rw [if_neg c] at q; exact absurd q (by decide)
    rw [e0, if_neg z] at hP
    refine ⟨hP.1, inv_cd h (fun _ _ _ _ => rfl) (fun _ _ => rfl) h.2.2.2.2.2 hF hP.2 ?_⟩
    unfold cdNo
    split
    · exact cdTr_4
    · decide
end cd

/-! settles, settled, shown -/
section sh6
variable {X : xG} {MI W W2 V : Mi} {ML B : Nat → Nat → Int64} {MR : Nat → Nat → Option Nat} {r : Nat → Nat} {S A Gn b K u bi bo w f : Nat} {x y : Int32}
/-- the cover of f, class against reference -/
def Cv (W W2 : Mi) (f q : Nat) : Prop := q ≤ 5 ∧ W (89 + 7 * f) 13 = nI q ∧ W2 145 f = nI q ∧ ∀ k, k < q → ccN W2 f k < 729 ∧ pickV (W (89 + 7 * f + 4)) 240 (W (89 + 7 * f + 5) k) = nI (ccN W2 f k)
theorem cv_of (hr : ∀ k, k < 12 → r k < 12) (hA : A ≤ 8) (hW : Bs W B r S A Gn b K u bi bo w) (hI : shI W B A) (hf : f < 5) (n1 : ¬ W 1 0 = 0) (n2 : W 43 6 = 0) (h4 : W (89 + 7 * f) 4 = 1) (hF : rF2 W W2) (hC : rCc W B A b W2) (h1 : W2 141 f = 1) : hasF (W (89 + 7 * f) 13) = inB (W2 145 f) 0 5 ∧ (inB (W2 145 f) 0 5 = true → ∃ q, Cv W W2 f q) := by
  have cf : (nI f).toNatClampNeg = f := nI_clamp (by omega)
  have z : funTr W (nI f) = 0 := by
    unfold funTr machTr
    rw [if_pos (show inR (nI f) 5 = true from inR_nI (N := 5) hf (by decide)), if_neg n1, if_pos n2]
  obtain ⟨-, e2, e3⟩ := few_rc (x := nI f) hr hA hW hI (fun _ => by rw [cf]; exact h4) hF hC (fun _ => by rw [cf]; exact h1)
  obtain ⟨g, hg, eg, -, e⟩ := e3 z
  have fg : f = g := by
    have q := congrArg Int32.toNatClampNeg eg
    rwa [nI_clamp (show f < 2 ^ 31 by omega), nI_clamp (show g < 2 ^ 31 by omega)] at q
  subst fg
  refine ⟨by rw [e]; rfl, fun hb => ?_⟩
  have z2 : fewTr W (nI f) = 0 := by
    unfold fewTr
    rw [if_pos z, cf, e]
    exact if_pos hb
  obtain ⟨g, q, hg, eg2, -, hq, q1, q2, q3, q4, -⟩ := e2 z2
  have fg2 : f = g := by
    have q := congrArg Int32.toNatClampNeg eg2
    rwa [nI_clamp (show f < 2 ^ 31 by omega), nI_clamp (show g < 2 ^ 31 by omega)] at q
  subst fg2
  exact ⟨q, hq, q1, q2, q4⟩
theorem vs_cv {q p : Nat} (hf : f < 5) (t1 : tabOK (B 58)) (h : Cv W W2 f q) (hp : p < 64) : vlV W B f (nI p) = vaI W2 f (nI p) := vs_eq hf h.1 t1 h.2.1 h.2.2.1 h.2.2.2 hp
theorem vl_01 (p : Int32) : vlV W B f p = 0 ∨ vlV W B f p = 1 := by
  unfold vlV
  split
  · exact Or.inr rfl
  · exact Or.inl rfl
theorem kq1 : ∀ a, a < 16 → ∀ c, c < 4 → a + 16 * c < 64 := by omega
theorem two_settle (hr : ∀ k, k < 12 → r k < 12) (hW : Bs W B r S A Gn b K u bi bo w) (hI : shI W B A) (hF : rF2 W W2) (hC : rCc W B A b W2) (hfb : fbR W y) (hrk : rrK W2 y) : fbTr W y = rrT W2 y ∧ (fbTr W y = 0 → ((seV W B y.toNatClampNeg).2, opt2 (seV W B y.toNatClampNeg).1) = grF W2 y.toNatClampNeg) := by
  have hIc := hW.2.2.1
  have hA : A ≤ 8 := hIc.2.2.1.2.1
  have hS : S ≤ 6 := hIc.2.2.1.1
  have k27 : W2 124 27 = W 124 27 := hF.2 27 (by decide) (by decide) (by decide) (by decide) (by decide) (by decide) (by decide)
  have kIA : rIA W2 y = rIA W y := by
    unfold rIA
    rw [hF.2 20 (by decide) (by decide) (by decide) (by decide) (by decide) (by decide) (by decide), hF.1 128 (by decide) (by decide)]
  unfold fbTr rrT
  unfold rrK at hrk
  unfold fbR at hfb
  rw [kIA, k27] at hrk ⊢
  by_cases c : inR y (W 1 6) = true
  · have c' : rIA W y = true := (in_eq (x := 0) hW).2.1.mpr c
    have n1 := (in_eq (x := 0) hW).2.2 c
    have tl := Bs_told hW n1
    have e6 : W 43 6 = W 124 27 := congrArg Prod.fst (Bs_g hW tl).2.2.2
    rw [if_pos c, if_pos c']
    by_cases z : W 43 6 = 0
    · have z' : ¬ 0 < W 124 27 := by rw [← e6, z]; decide
      rw [if_pos z, if_neg z']
      obtain ⟨s3, s4⟩ := hfb c z
      obtain ⟨k3, k4⟩ := hrk c' z'
      obtain ⟨m3, m3'⟩ := cv_of (f := 3) hr hA hW hI (by decide) n1 z s3 hF hC k3
      have m3'' : hasF (W 110 13) = inB (W2 145 3) 0 5 := m3
      rw [m3''] at s4 ⊢
      by_cases b3 : inB (W2 145 3) 0 5 = true
      · rw [if_pos b3, if_pos b3]
        obtain ⟨m4, m4'⟩ := cv_of (f := 4) hr hA hW hI (by decide) n1 z (s4 b3) hF hC (k4 b3)
        have m4'' : hasF (W 117 13) = inB (W2 145 4) 0 5 := m4
        rw [m4'']
        refine ⟨rfl, fun z0 => ?_⟩
        have b4 : inB (W2 145 4) 0 5 = true := Classical.byContradiction fun q => by
          rw [if_neg q] at z0
          exact absurd z0 (by decide)
        obtain ⟨q3, v3⟩ := m3' b3
        obtain ⟨q4, v4⟩ := m4' b4
        have hl := (Bs_l hW n1 z).1
        rw [hIc.2.2.2.2.1.1] at c
        obtain ⟨i, hi, rfl⟩ := inR_ex (N := A) (by omega) (inR_t.mp c).1 (inR_t.mp c).2
        rw [nI_clamp (show i < 2 ^ 31 by omega)]
        obtain ⟨g1, g2, ⟨f0, f1, hf0, hf1, p0, p1, -⟩⟩ : True ∧ True ∧ ∃ f0 f1, f0 < S ∧ f1 < S ∧ arP W i 0 = nI f0 ∧ arP W i 1 = nI f1 ∧ True := by
          obtain ⟨f0, f1, hf0, hf1, p0, p1, -⟩ := hl.2.2.2.2.2.2.1.2 i hi
          exact ⟨trivial, trivial, f0, f1, hf0, hf1, p0, p1, trivial⟩
        obtain ⟨⟨p, hp, ep⟩, -⟩ := hl.2.2.2.2.2.2.1.1 f1 hf1
        obtain ⟨cc, hcc, ec⟩ := hl.2.2.2.2.2.2.2.1 f0 hf0
        have r0 : arR W2 i 0 = nI f0 := by
          show W2 128 _ = _
          rw [hF.1 128 (by decide) (by decide), ← p0]
          exact (hl.2.2.2.2.1 i hi 0 (by decide)).symm
        have r1 : arR W2 i 1 = nI f1 := by
          show W2 128 _ = _
          rw [hF.1 128 (by decide) (by decide), ← p1]
          exact (hl.2.2.2.2.1 i hi 1 (by decide)).symm
        have e1 : W2 135 f1 = nI p := by
          rw [hF.1 135 (by decide) (by decide), ← hl.2.2.2.2.2.2.2.2.1 f1 hf1, ep]
        have e2 : W2 128 f0 = nI cc := by
          rw [hF.1 128 (by decide) (by decide), ← hl.2.2.2.2.2.2.2.2.2.2.1 f0 hf0, ec]
        unfold seV grF
        rw [r0, r1, nI_clamp (show f0 < 2 ^ 31 by omega), nI_clamp (show f1 < 2 ^ 31 by omega), e1, e2, p0, p1, pickV_nI _ (show f1 < 6 by omega) (by decide), pickV_nI _ (show f0 < 6 by omega) (by decide), ep, ec]
        have hv : ∀ c, c < 4 → vlV W B 3 (nI p ||| (nI c <<< ((4 : Int32) &&& 31))) = vaI W2 3 (nI p ||| nI c <<< ((4 : Int32) &&& 31)) ∧ vlV W B 4 (nI p ||| (nI c <<< ((4 : Int32) &&& 31))) = vaI W2 4 (nI p ||| nI c <<< ((4 : Int32) &&& 31)) := fun c hc => by
          rw [kd7 p hp c hc]
          exact ⟨vs_cv (by decide) hW.1.1 v3 (kq1 p hp c hc), vs_cv (by decide) hW.1.1 v4 (kq1 p hp c hc)⟩
        refine se_gr hp hv (fun c hc => ?_) 8 0 cc hcc
        unfold grN
        rw [← (hv c hc).1, ← (hv c hc).2]
        rcases vl_01 (W := W) (B := B) (f := 3) (nI p ||| nI c <<< ((4 : Int32) &&& 31)) with y3 | y3 <;> rcases vl_01 (W := W) (B := B) (f := 4) (nI p ||| nI c <<< ((4 : Int32) &&& 31)) with y4 | y4 <;> rw [y3, y4]
        · exact ⟨0, by decide, by decide⟩
        · exact ⟨2, by decide, by decide⟩
        · exact ⟨1, by decide, by decide⟩
        · exact ⟨3, by decide, by decide⟩
      · rw [if_neg b3, if_neg b3]
        exact ⟨rfl, fun q => absurd q (by decide)⟩
    · have z' : 0 < W 124 27 := by rw [← e6]; exact (Bs_p hW tl).resolve_left z
      rw [if_neg z, if_pos z']
      exact ⟨rfl, fun q => absurd q (by decide)⟩
  · have c' : ¬ rIA W y = true := fun q => c ((in_eq (x := 0) hW).2.1.mp q)
    rw [if_neg c, if_neg c']
    exact ⟨rfl, fun q => absurd q (by decide)⟩
theorem fbTr_4 : ¬ fbTr W y = 4 := by
  unfold fbTr
  (repeat' split) <;> first | exact (show ¬ (0 : Int32) = 4 by decide) | exact (show ¬ (1 : Int32) = 4 by decide) | exact (show ¬ (2 : Int32) = 4 by decide) | exact (show ¬ (3 : Int32) = 4 by decide) | exact (show ¬ (5 : Int32) = 4 by decide) | exact funTr_4 | exact fewTr_4
theorem two_settles (hS2 : x_S2 X) (h : Inv MI ML MR r S A Gn b K u bi bo w) : Two X yX10_settles cX10_settles 3 (some .int) [.ref 0, .int x] yX11_settles cX11_settles 3 (some .int) [.ref 124, .int x] MI ML MR := by
  have hIc := h.2.1.2.2.1
  refine two_sh (d2 := 12) h (by decide) (by decide) (c_X10_settles h.1.1 hS2 hIc.2.2.1.2.1 hIc.2.2.2.2.1.1 h.2.2.2.1) (fun r0 W B C hz => ?_)
  obtain ⟨rfl, hE, rfl, h8, h4⟩ := hz
  have hW := Inv_W h hE
  refine ⟨rfl, hE, _, _, rfl, c_X11_settles h.1.1 (Bs_m hW) (rCc_shE h hE) hW.1.2.2, fun r2 W2 B2 C2 hy => rQ_im hy (fun a hF hC hP => ?_)⟩
  obtain ⟨h1, hP⟩ := hP
  obtain ⟨e1, e2⟩ := two_settle h.1.2.2.1 hW hE.2.2.2.2.2.1 hF hC h4 h1
  rw [← e1] at hP
  refine sh_fin h8 ?_ (by unfold se1Ans; split; exact (show ¬ (0 : Int32) = 4 by decide); exact fbTr_4)
  unfold se1Ans
  by_cases z : fbTr W x = 0
  · rw [if_pos z] at hP ⊢
    rw [hP.1, hP.2, ← e2 z]
  · rw [if_neg z] at hP ⊢
    rw [hP.1, hP.2]
theorem two_settled (hS2 : x_S2 X) (h : Inv MI ML MR r S A Gn b K u bi bo w) : Two X yX10_settled cX10_settled 3 (some .int) [.ref 0, .int x] yX11_settled cX11_settled 3 (some .int) [.ref 124, .int x] MI ML MR := by
  have hIc := h.2.1.2.2.1
  refine two_sh (d2 := 12) h (by decide) (by decide) (c_X10_settled h.1.1 hS2 hIc.2.2.1.2.1 hIc.2.2.2.2.1.1 h.2.2.2.1) (fun r0 W B C hz => ?_)
  obtain ⟨rfl, hE, rfl, h8, h4⟩ := hz
  have hW := Inv_W h hE
  refine ⟨rfl, hE, _, _, rfl, c_X11_settled h.1.1 (Bs_m hW) (rCc_shE h hE) hW.1.2.2, fun r2 W2 B2 C2 hy => rQ_im hy (fun a hF hC hP => ?_)⟩
  obtain ⟨h1, hP⟩ := hP
  obtain ⟨e1, e2⟩ := two_settle h.1.2.2.1 hW hE.2.2.2.2.2.1 hF hC h4 h1
  rw [← e1] at hP
  refine sh_fin h8 ?_ (by unfold se0Ans; split; exact (show ¬ (0 : Int32) = 4 by decide); exact fbTr_4)
  unfold se0Ans
  by_cases z : fbTr W x = 0
  · rw [if_pos z] at hP ⊢
    rw [hP.1, hP.2, ← e2 z]
  · rw [if_neg z] at hP ⊢
    rw [hP.1, hP.2]
theorem sh5_eq {p : Nat} (hp : p < 64) (t1 : tabOK (B 58)) : ∀ k, k ≤ 5 → (∀ g, g < k → ∃ q, Cv W W2 g q) → shB5 W B (nI p) k = shS W2 (nI p) k := by
  intro k
  induction k with
  | zero => intro _ _; rfl
  | succ k ih =>
    intro hk hc
    obtain ⟨q, hq⟩ := hc k (Nat.lt_succ_self k)
    rw [shB5, shS, ih (by omega) (fun g hg => hc g (by omega)), vs_cv (by omega) t1 hq hp]
/-- the point shown -/
theorem pt_eq (h : Bs MI ML r S A Gn b K u bi bo w) (tl : MI 1 0 = 1) (z : MI 43 6 = 0) : ∃ p, p < 64 ∧ shPt MI = nI p ∧ rsPt MI = nI p := by
  obtain ⟨-, -, hIc, -, -, -, -, k1, k2, ⟨k3, k4⟩, k5, ch, hch, ech⟩ := id h
  have hl := (Bs_l h (by rw [tl]; decide) z).1
  have hw := k2 tl
  have hS : S ≤ 6 := hIc.2.2.1.1
  obtain ⟨⟨a, ha, ea⟩, -⟩ := hl.2.2.2.2.2.2.1.1 w hw
  obtain ⟨c, hc, ec⟩ := hl.2.2.2.2.2.2.2.1 w hw
  have e1 : MI 135 w = nI a := by rw [← hl.2.2.2.2.2.2.2.2.1 w hw, ea]
  have e2 : MI 128 w = nI c := by rw [← hl.2.2.2.2.2.2.2.2.2.2.1 w hw, ec]
  have hx : a ^^^ ch < 16 := xor_lt2 (k := 4) ha hch
  refine ⟨(a ^^^ ch) + 16 * c, by omega, ?_, ?_⟩
  · unfold shPt pointV
    rw [k3, pickV_nI _ (by omega) (by decide), pickV_nI _ (by omega) (by decide), ea, ec, kd7 a ha c hc, ech, nI_xor, kd8 a ha c hc ch hch]
  · unfold rsPt
    rw [k4, nI_clamp (by omega), e1, e2, ← k5, ech, nI_xor, kd7 _ hx c hc]
theorem two_shown (hS2 : x_S2 X) (h : Inv MI ML MR r S A Gn b K u bi bo w) : Two X yX10_shown cX10_shown 6 (some .int) [.ref 0] yX11_shown cX11_shown 3 (some .int) [.ref 124] MI ML MR := by
  have hIc := h.2.1.2.2.1
  have hA : A ≤ 8 := hIc.2.2.1.2.1
  refine two_sh (d2 := 12) h (by decide) (by decide) (c_X10_shown h.1.1 hS2 hIc.2.2.1.2.1 hIc.2.2.2.2.1.1 h.2.2.2.1) (fun r0 W B C hz => ?_)
  obtain ⟨rfl, hE, h1, h2⟩ := hz
  have hW := Inv_W h hE
  have hk := hW.2.2.2.2.2.2.2
  have hC11 : Ct X yX11_shown cX11_shown 3 (some .int) 12 0 0 [.ref 124] 0 SH W B C 0 SH (rQ W B C A b (fun W2 a t => rshP (th W) W2 a t)) := c_X11_shown h.1.1 (Bs_m hW) (rCc_shE h hE) hW.1.2.2 hk.1 hk.2.2.1.2
  have m1 : machTr W = machTr MI := by
    unfold machTr
    rw [hE.1 1 (by decide) (by decide), hE.1 43 (by decide) (by decide)]
  have e20 : th W 124 20 = W 1 0 := hW.2.2.1.2.1
  by_cases z : machTr MI = 0
  · have z' := z
    rw [← m1] at z'
    have n1 : ¬ W 1 0 = 0 := fun q => by
      unfold machTr at z'
      rw [if_pos q] at z'
      exact absurd z' (by decide)
    have n2 : W 43 6 = 0 := Classical.byContradiction fun q => by
      unfold machTr at z'
      rw [if_neg n1, if_neg q] at z'
      exact absurd z' (by decide)
    have tl := Bs_told hW n1
    have e6 : W 43 6 = W 124 27 := congrArg Prod.fst (Bs_g hW tl).2.2.2
    have n3 : ¬ th W 124 20 = 0 := by rw [e20]; exact n1
    have n4 : ¬ 0 < th W 124 27 := by
      show ¬ 0 < W 124 27
      rw [← e6, n2]
      decide
    obtain ⟨h8, h3⟩ := h2 z
    rcases h3 with ⟨f, hf, g1, g2, g3, rfl⟩ | ⟨g1, rfl⟩
    · refine ⟨rfl, hE, _, _, rfl, hC11, fun r2 W2 B2 C2 hy => rQ_im hy (fun a hF hC hP => ?_)⟩
      unfold rshP at hP
      rw [if_neg n3, if_neg n4] at hP
      obtain ⟨p1, p2⟩ := hP
      refine ⟨?_, by rw [p1, h8], by rw [p1]; decide⟩
      rcases p2 with ⟨-, -, -, -, -, p3⟩ | ⟨p3, -⟩
      · exact p3
      · have := (cv_of h.1.2.2.1 hA hW hE.2.2.2.2.2.1 hf n1 n2 g2 hF hC (p3 f hf).1).1
        rw [g3, (p3 f hf).2] at this
        cases this
    · refine ⟨rfl, hE, _, _, rfl, hC11, fun r2 W2 B2 C2 hy => rQ_im hy (fun a hF hC hP => ?_)⟩
      unfold rshP at hP
      rw [if_neg n3, if_neg n4] at hP
      obtain ⟨p1, p2⟩ := hP
      refine ⟨?_, by rw [p1, h8], by rw [p1]; decide⟩
      rcases p2 with ⟨f, hf, p3, p4, p5, p6⟩ | ⟨p3, rfl⟩
      · have := (cv_of h.1.2.2.1 hA hW hE.2.2.2.2.2.1 hf n1 n2 (g1 f hf).1 hF hC p4).1
        rw [(g1 f hf).2, p5] at this
        cases this
      · have tl2 : MI 1 0 = 1 := by rw [← hE.1 1 (by decide) (by decide)]; exact tl
        have n22 : MI 43 6 = 0 := by rw [← hE.1 43 (by decide) (by decide)]; exact n2
        obtain ⟨p, hp, q1, q2⟩ := pt_eq h.2.1 tl2 n22
        have q3 : rsPt (th W) = rsPt MI := by
          unfold rsPt
          show (W 135 (W 124 46).toNatClampNeg ^^^ W 124 47) ||| (W 128 (W 124 46).toNatClampNeg <<< ((4 : Int32) &&& 31)) = _
          rw [hE.2.2.1 135 (by decide), hE.2.2.1 124 (by decide), hE.2.2.1 128 (by decide)]
        rw [q3, q2, q1]
        exact (sh5_eq hp hW.1.1 5 (Nat.le_refl 5) (fun g hg => (cv_of h.1.2.2.1 hA hW hE.2.2.2.2.2.1 hg n1 n2 (g1 g hg).1 hF hC (p3 g hg).1).2 (p3 g hg).2)).symm
  · obtain ⟨rfl, h8⟩ := h1 z
    refine ⟨rfl, hE, _, _, rfl, hC11, fun r2 W2 B2 C2 hy => rQ_im hy (fun a hF hC hP => ?_)⟩
    unfold rshP at hP
    rw [e20] at hP
    rw [← m1] at z h8
    rw [h8]
    unfold machTr at z ⊢
    by_cases n1 : W 1 0 = 0
    · rw [if_pos n1] at hP ⊢
      exact ⟨hP.1, hP.2, by rw [hP.2]; decide⟩
    · rw [if_neg n1] at hP z ⊢
      have tl := Bs_told hW n1
      have e6 : W 43 6 = W 124 27 := congrArg Prod.fst (Bs_g hW tl).2.2.2
      have n2 : ¬ W 43 6 = 0 := fun q => z (if_pos q)
      have n4 : 0 < th W 124 27 := by
        show 0 < W 124 27
        rw [← e6]
        exact (Bs_p hW tl).resolve_left n2
      rw [if_pos n4] at hP
      rw [if_neg n2]
      exact ⟨hP.1, hP.2, by rw [hP.2]; decide⟩
end sh6

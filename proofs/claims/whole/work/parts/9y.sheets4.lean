/-! FEWEST, formulas, harm, runs with a cover -/
section shy
variable {X : xG} {MI W W2 V : Mi} {ML B : Nat → Nat → Int64} {MR : Nat → Nat → Option Nat} {r : Nat → Nat} {S A Gn b K u bi bo w f : Nat} {x y : Int32}
theorem two_fewest (hS2 : x_S2 X) (h : Inv MI ML MR r S A Gn b K u bi bo w) : Two X yX10_fewest cX10_fewest 3 (some .int) [.ref 0, .int x] yX11_fewest cX11_fewest 3 (some .int) [.ref 124, .int x] MI ML MR := by
  have hIc := h.2.1.2.2.1
  refine two_sh (d2 := 10) h (by decide) (by decide) (c_X10_fewest h.1.1 hS2 hIc.2.2.1.2.1 hIc.2.2.2.2.1.1 h.2.2.2.1) (fun r0 W B C hz => ?_)
  obtain ⟨rfl, hE, rfl, h8, h4⟩ := hz
  have hW := Inv_W h hE
  refine ⟨rfl, hE, _, _, rfl, c_X11_fewest h.1.1 (Bs_m hW) (rCc_shE h hE), fun r2 W2 B2 C2 hy => rQ_im hy (fun a hF hC hP => ?_)⟩
  have eT : rTr (th W) x = funTr W x := (Bs_tr hW x).symm
  rw [eT] at hP
  refine sh_fin h8 ?_ (by unfold fdAns; (repeat' split) <;> first | exact (show ¬ (0 : Int32) = 4 by decide) | exact (show ¬ (1 : Int32) = 4 by decide) | exact (show ¬ (2 : Int32) = 4 by decide) | exact (show ¬ (3 : Int32) = 4 by decide) | exact (show ¬ (5 : Int32) = 4 by decide) | exact funTr_4 | exact fewTr_4)
  unfold fdAns
  by_cases z : funTr W x = 0
  · rw [if_pos z] at hP ⊢
    obtain ⟨-, -, hq⟩ := few_rc h.1.2.2.1 hIc.2.2.1.2.1 hW hE.2.2.2.2.2.1 (h4 trivial) hF hC (fun _ => hP.2.1)
    obtain ⟨f, hf, rfl, cf, e⟩ := hq z
    rw [cf] at hP ⊢
    rw [hP.1, hP.2.2, e]
  · rw [if_neg z] at hP ⊢
    rw [hP.1, hP.2]
theorem two_chosen (hS2 : x_S2 X) (h : Inv MI ML MR r S A Gn b K u bi bo w) : Two X yX10_chosen cX10_chosen 4 (some .int) [.ref 0, .int x, .int y] yX11_chosen cX11_chosen 4 (some .int) [.ref 124, .int x, .int y] MI ML MR := by
  have hIc := h.2.1.2.2.1
  refine two_sh (d2 := 12) h (by decide) (by decide) (c_X10_chosen h.1.1 hS2 hIc.2.2.1.2.1 hIc.2.2.2.2.1.1 h.2.2.2.1) (fun r0 W B C hz => ?_)
  obtain ⟨rfl, hE, rfl, h8, h4⟩ := hz
  have hW := Inv_W h hE
  refine ⟨rfl, hE, _, _, rfl, c_X11_chosen h.1.1 (Bs_m hW) (rCc_shE h hE), fun r2 W2 B2 C2 hy => rQ_im hy (fun a hF hC hP => ?_)⟩
  obtain ⟨h1, hP⟩ := hP
  obtain ⟨e1, e2, -⟩ := few_rc h.1.2.2.1 hIc.2.2.1.2.1 hW hE.2.2.2.2.2.1 (h4 trivial) hF hC h1
  rw [← e1] at hP
  refine sh_fin h8 ?_ (by unfold igAns; (repeat' split) <;> first | exact (show ¬ (0 : Int32) = 4 by decide) | exact (show ¬ (1 : Int32) = 4 by decide) | exact (show ¬ (2 : Int32) = 4 by decide) | exact (show ¬ (3 : Int32) = 4 by decide) | exact (show ¬ (5 : Int32) = 4 by decide) | exact funTr_4 | exact fewTr_4)
  unfold igAns
  by_cases z : fewTr W x = 0
  · rw [if_pos z] at hP ⊢
    obtain ⟨f, q, hf, rfl, cf, hq, q1, q2, q3, q4, ok⟩ := e2 z
    rw [cf, q2] at hP
    rw [cf, q1]
    by_cases y1 : inR y (nI q) = true
    · rw [if_pos y1] at hP ⊢
      obtain ⟨k, hk, rfl⟩ := inR_ex (by omega) (inR_t.mp y1).1 (inR_t.mp y1).2
      rw [nI_clamp (by omega)] at hP
      rw [hP.1, hP.2, pickV_nI _ (by omega) (by decide), q3 k hk]
    · rw [if_neg y1] at hP ⊢
      rw [hP.1, hP.2]
  · rw [if_neg z] at hP ⊢
    rw [hP.1, hP.2]
/-- the text of a sheet -/
theorem txt_eq {q : Nat} (hf : f < 5) (hq : q ≤ 5) (q1 : W (89 + 7 * f) 13 = nI q) (q4 : ∀ k, k < q → ccN W2 f k < 729 ∧ pickV (W (89 + 7 * f + 4)) 240 (W (89 + 7 * f + 5) k) = nI (ccN W2 f k)) (ok : ShOK (th W) B A f) : W (89 + 7 * f) 16 = nI (ltN (ccN W2 f) q) ∧ W (89 + 7 * f) 18 = nI (waL (ccN W2 f) q q).length ∧ ∀ i, i < (waL (ccN W2 f) q q).length → W (89 + 7 * f + 6) i = (waL (ccN W2 f) q q).getD i 0 := by
  obtain ⟨-, -, -, -, -, -, Hr, g, row, -, -, -, -, -, -, f7⟩ := ok
  rw [th_b (by omega), th_b (by omega), th_b (by omega), th_b (by omega)] at f7
  obtain ⟨g1, g2, g3⟩ := f7 q hq q1
  obtain ⟨m1, m2⟩ := fm_eq (c := fun i => pickV (W (89 + 7 * f + 4)) 240 (W (89 + 7 * f + 5) i)) (cc := ccN W2 f) (q := q) q4
  rw [m1] at g2 g3
  rw [m2] at g1
  exact ⟨g1, g2, g3⟩
theorem two_literals (hS2 : x_S2 X) (h : Inv MI ML MR r S A Gn b K u bi bo w) : Two X yX10_literals cX10_literals 3 (some .int) [.ref 0, .int x] yX11_literals cX11_literals 5 (some .int) [.ref 124, .int x] MI ML MR := by
  have hIc := h.2.1.2.2.1
  refine two_sh (d2 := 12) h (by decide) (by decide) (c_X10_literals h.1.1 hS2 hIc.2.2.1.2.1 hIc.2.2.2.2.1.1 h.2.2.2.1) (fun r0 W B C hz => ?_)
  obtain ⟨rfl, hE, rfl, h8, h4⟩ := hz
  have hW := Inv_W h hE
  refine ⟨rfl, hE, _, _, rfl, c_X11_literals h.1.1 (Bs_m hW) (rCc_shE h hE) hW.1.2.2, fun r2 W2 B2 C2 hy => rQ_im hy (fun a hF hC hP => ?_)⟩
  obtain ⟨h1, hP⟩ := hP
  obtain ⟨e1, e2, -⟩ := few_rc h.1.2.2.1 hIc.2.2.1.2.1 hW hE.2.2.2.2.2.1 (h4 trivial) hF hC h1
  rw [← e1] at hP
  refine sh_fin h8 ?_ (by unfold fgAns; (repeat' split) <;> first | exact (show ¬ (0 : Int32) = 4 by decide) | exact (show ¬ (1 : Int32) = 4 by decide) | exact (show ¬ (2 : Int32) = 4 by decide) | exact (show ¬ (3 : Int32) = 4 by decide) | exact (show ¬ (5 : Int32) = 4 by decide) | exact funTr_4 | exact fewTr_4)
  unfold fgAns
  by_cases z : fewTr W x = 0
  · rw [if_pos z] at hP ⊢
    obtain ⟨f, q, hf, rfl, cf, hq, q1, q2, q3, q4, ok⟩ := e2 z
    rw [cf, q2, nI_clamp (by omega)] at hP
    rw [cf, hP.1, hP.2, (txt_eq hf hq q1 q4 ok).1]
  · rw [if_neg z] at hP ⊢
    rw [hP.1, hP.2]
theorem two_formula (hS2 : x_S2 X) (h : Inv MI ML MR r S A Gn b K u bi bo w) : Two X yX10_formula cX10_formula 3 (some .int) [.ref 0, .int x] yX11_formula cX11_formula 3 (some .int) [.ref 124, .int x] MI ML MR := by
  have hIc := h.2.1.2.2.1
  refine two_sh (d2 := 12) h (by decide) (by decide) (c_X10_formula h.1.1 hS2 hIc.2.2.1.2.1 hIc.2.2.2.2.1.1 h.2.2.2.1) (fun r0 W B C hz => ?_)
  obtain ⟨rfl, hE, rfl, h8, h4⟩ := hz
  have hW := Inv_W h hE
  refine ⟨rfl, hE, _, _, rfl, c_X11_formula h.1.1 (Bs_m hW) (rCc_shE h hE) hW.1.2.2, fun r2 W2 B2 C2 hy => rQ_im hy (fun a hF hC hP => ?_)⟩
  obtain ⟨h1, hP⟩ := hP
  obtain ⟨e1, e2, -⟩ := few_rc h.1.2.2.1 hIc.2.2.1.2.1 hW hE.2.2.2.2.2.1 (h4 trivial) hF hC h1
  rw [← e1] at hP
  refine sh_fin h8 ?_ (by unfold fgAns; (repeat' split) <;> first | exact (show ¬ (0 : Int32) = 4 by decide) | exact (show ¬ (1 : Int32) = 4 by decide) | exact (show ¬ (2 : Int32) = 4 by decide) | exact (show ¬ (3 : Int32) = 4 by decide) | exact (show ¬ (5 : Int32) = 4 by decide) | exact funTr_4 | exact fewTr_4)
  unfold fgAns
  by_cases z : fewTr W x = 0
  · rw [if_pos z] at hP ⊢
    obtain ⟨f, q, hf, rfl, cf, hq, q1, q2, q3, q4, ok⟩ := e2 z
    unfold wcA at hP
    rw [cf, q2, nI_clamp (by omega)] at hP
    rw [cf, hP.1, hP.2, (txt_eq hf hq q1 q4 ok).2.1]
  · rw [if_neg z] at hP ⊢
    rw [hP.1, hP.2]
theorem two_sign (hS2 : x_S2 X) (h : Inv MI ML MR r S A Gn b K u bi bo w) : Two X yX10_sign cX10_sign 4 (some .int) [.ref 0, .int x, .int y] yX11_sign cX11_sign 4 (some .int) [.ref 124, .int x, .int y] MI ML MR := by
  have hIc := h.2.1.2.2.1
  refine two_sh (d2 := 12) h (by decide) (by decide) (c_X10_sign h.1.1 hS2 hIc.2.2.1.2.1 hIc.2.2.2.2.1.1 h.2.2.2.1) (fun r0 W B C hz => ?_)
  obtain ⟨rfl, hE, rfl, h8, h4⟩ := hz
  have hW := Inv_W h hE
  refine ⟨rfl, hE, _, _, rfl, c_X11_sign h.1.1 (Bs_m hW) (rCc_shE h hE) hW.1.2.2, fun r2 W2 B2 C2 hy => rQ_im hy (fun a hF hC hP => ?_)⟩
  obtain ⟨h1, hP⟩ := hP
  obtain ⟨e1, e2, -⟩ := few_rc h.1.2.2.1 hIc.2.2.1.2.1 hW hE.2.2.2.2.2.1 (h4 trivial) hF hC h1
  rw [← e1] at hP
  refine sh_fin h8 ?_ (by unfold igAns; (repeat' split) <;> first | exact (show ¬ (0 : Int32) = 4 by decide) | exact (show ¬ (1 : Int32) = 4 by decide) | exact (show ¬ (2 : Int32) = 4 by decide) | exact (show ¬ (3 : Int32) = 4 by decide) | exact (show ¬ (5 : Int32) = 4 by decide) | exact funTr_4 | exact fewTr_4)
  unfold igAns
  by_cases z : fewTr W x = 0
  · rw [if_pos z] at hP ⊢
    obtain ⟨f, q, hf, rfl, cf, hq, q1, q2, q3, q4, ok⟩ := e2 z
    unfold wcA at hP
    rw [cf, q2, nI_clamp (by omega)] at hP
    obtain ⟨-, g2, g3⟩ := txt_eq hf hq q1 q4 ok
    have l64 : (waL (ccN W2 f) q q).length ≤ 64 := by
      have m1 := (fm_eq (c := fun i => pickV (W (89 + 7 * f + 4)) 240 (W (89 + 7 * f + 5) i)) (cc := ccN W2 f) (q := q) q4).1
      rw [← m1]
      unfold fmL
      have := (spA_len (fun i => pickV (W (89 + 7 * f + 4)) 240 (W (89 + 7 * f + 5) i)) q).1
      split
      · decide
      · rename_i q0
        rw [if_neg q0] at this
        omega
    rw [cf, g2]
    by_cases y1 : inR y (nI (waL (ccN W2 f) q q).length) = true
    · rw [if_pos y1] at hP ⊢
      obtain ⟨k, hk, rfl⟩ := inR_ex (by omega) (inR_t.mp y1).1 (inR_t.mp y1).2
      rw [nI_clamp (by omega)] at hP
      rw [hP.1, hP.2, pickV_nI _ (by omega) (by decide), g3 k hk]
    · rw [if_neg y1] at hP ⊢
      rw [hP.1, hP.2]
  · rw [if_neg z] at hP ⊢
    rw [hP.1, hP.2]
theorem hmR_cg (h8 : W 128 = V 128) (h5 : W 135 = V 135) (h6 : W 136 = V 136) (g i : Nat) : hmR W B f g i = hmR V B f g i := by
  have e1 : ∀ j, hmG W B f i j = hmG V B f i j := by
    intro j
    induction j with
    | zero => rfl
    | succ j ih =>
      rw [hmG, hmG, ih]
      unfold hg1 hg2 hzR gcN ctR
      rw [flR_cg h8 h6, bcR_cg h8 h5, tcR_cg h8 h5, h8, h5]
      simp only [arR, h8]
  have e2 : ∀ L h k, hmN W B f g L h k = hmN V B f g L h k := by
    intro L h k
    induction k with
    | zero => rfl
    | succ k ih =>
      rw [hmN, hmN, ih]
      unfold lgP gcN
      rw [h8]
  unfold hmR
  rw [nqA_cg h8 h5 h6, e1, e2]
theorem two_harm (h : Inv MI ML MR r S A Gn b K u bi bo w) : Two X yX10_harm cX10_harm 3 (some .int) [.ref 0, .int x, .int y] yX11_harm cX11_harm 4 (some .int) [.ref 124, .int x, .int y] MI ML MR := by
  have hIc := h.2.1.2.2.1
  refine two_sh (d2 := 6) h (by decide) (by decide) (c_X10_harm h.1.1 hIc.2.2.1.2.1 hIc.2.2.2.2.1.1 hIc.2.2.1.2.2.1 hIc.2.2.2.2.2.1.1) (fun r0 W B C hz => ?_)
  obtain ⟨rfl, ⟨g, rfl⟩, rfl, rfl⟩ := hz
  have hE : shE MI B A (u2 (sr MI 56 g) 0 8 (hrAns MI B Gn x y).2) B := shE_w (shE_56 h.2.2.2.1)
  have hW := Inv_W h hE
  have hV := Bs_th h.1.2.2.1 hW
  refine ⟨rfl, hE, _, _, rfl, c_X11_harm h.1.1 (Bs_m hW) (rCc_shE h hE) (Bs_gOK hW), fun r2 W2 B2 C2 hy => rQ_im hy (fun a hF hC hP => ?_)⟩
  have e0 := hr_eq h.2.1.2.2.1 (Bs_tr h.2.1) (fun z1 z2 => Bs_hm h.2.1 (by rw [z1]; decide) z2) x y
  have e : hrAns MI B Gn x y = rhA (th (u2 (sr MI 56 g) 0 8 (hrAns MI B Gn x y).2)) B Gn x y := by
    have e1 : ∀ f i, hmR (th (u2 (sr MI 56 g) 0 8 (hrAns MI B Gn x y).2)) B f Gn i = hmR MI B f Gn i := fun f i => hmR_cg (V := MI) (W := th (u2 (sr MI 56 g) 0 8 (hrAns MI B Gn x y).2)) rfl rfl rfl Gn i
    refine e0.trans ?_
    unfold rhA
    rw [e1]
    rfl
  rw [← e] at hP
  refine sh_fin (u2_eq _ _ _ _) (Prod.ext hP.1.symm hP.2.symm) (by unfold hrAns; (repeat' split) <;> first | exact (show ¬ (0 : Int32) = 4 by decide) | exact (show ¬ (1 : Int32) = 4 by decide) | exact (show ¬ (2 : Int32) = 4 by decide) | exact (show ¬ (3 : Int32) = 4 by decide) | exact (show ¬ (5 : Int32) = 4 by decide) | exact funTr_4 | exact fewTr_4)
theorem two_glitch (h : Inv MI ML MR r S A Gn b K u bi bo w) : Two X yX10_glitch cX10_glitch 4 (some .int) [.ref 0, .int x] yX11_glitch cX11_glitch 4 (some .int) [.ref 124, .int x] MI ML MR := by
  have hIc := h.2.1.2.2.1
  refine two_sh (d2 := 6) h (by decide) (by decide) (c_X10_glitch h.1.1 hIc.2.2.1.2.1 hIc.2.2.2.2.1.1 hIc.2.2.1.2.2.1 hIc.2.2.2.2.2.1.1) (fun r0 W B C hz => ?_)
  obtain ⟨rfl, ⟨g, rfl⟩, rfl, rfl⟩ := hz
  have hE : shE MI B A (u2 (sr MI 56 g) 0 8 (glAns MI B Gn A x).2) B := shE_w (shE_56 h.2.2.2.1)
  have hW := Inv_W h hE
  refine ⟨rfl, hE, _, _, rfl, c_X11_glitch h.1.1 (Bs_m hW) (rCc_shE h hE) (Bs_gOK hW), fun r2 W2 B2 C2 hy => rQ_im hy (fun a hF hC hP => ?_)⟩
  obtain ⟨e1, e2⟩ := gl_eq (A := A) (Bs_tr h.2.1) (fun z1 z2 => Bs_hm h.2.1 z1 z2) (fun f i => hmR_p _ _ _ _ _) x
  have eg : ∀ f, glR (th (u2 (sr MI 56 g) 0 8 (glAns MI B Gn A x).2)) B f Gn A = glR MI B f Gn A := fun f => by
    unfold glR
    congr 2
    funext i
    rw [hmR_cg (V := MI) (W := th (u2 (sr MI 56 g) 0 8 (glAns MI B Gn A x).2)) rfl rfl rfl]
  have eT : rTr (th (u2 (sr MI 56 g) 0 8 (glAns MI B Gn A x).2)) x = rTr MI x := rfl
  rw [eT, eg] at hP
  refine sh_fin (u2_eq _ _ _ _) ?_ (by unfold glAns; (repeat' split) <;> first | exact (show ¬ (0 : Int32) = 4 by decide) | exact (show ¬ (1 : Int32) = 4 by decide) | exact (show ¬ (2 : Int32) = 4 by decide) | exact (show ¬ (3 : Int32) = 4 by decide) | exact (show ¬ (5 : Int32) = 4 by decide) | exact funTr_4 | exact fewTr_4)
  by_cases z : rTr MI x = 0
  · rw [if_pos z] at hP
    rw [e1 z, hP.1, hP.2]
  · rw [if_neg z] at hP
    rw [e2 z, hP.1, hP.2]
end shy

/-! runs with a cover, settling, shown -/
section shz
variable {X : xG} {MI W W2 V : Mi} {ML B : Nat → Nat → Int64} {MR : Nat → Nat → Option Nat} {r : Nat → Nat} {S A Gn b K u bi bo w f : Nat} {x y : Int32}
theorem rs_eq {q d : Nat} (hf : f < 5) (hq : q ≤ 5) (t1 : tabOK (B 58)) (q1 : W (89 + 7 * f) 13 = nI q) (q2 : W2 145 f = nI q) (q4 : ∀ k, k < q → ccN W2 f k < 729 ∧ pickV (W (89 + 7 * f + 4)) 240 (W (89 + 7 * f + 5) k) = nI (ccN W2 f k)) (hd : d < 729) : rsV W B f (B 58 d) = rcP W2 (nI f) d := by
  unfold rsV rcP sK
  rw [q1, nI_clamp (by omega), nI_clamp (show f < 2 ^ 31 by omega), q2, nI_clamp (show q < 2 ^ 31 by omega)]
  exact (rv_eq t1 hd q (fun i hi => ⟨(q4 i hi).1, by unfold choP; rw [(q4 i hi).2, ptsV_nI (q4 i hi).1]⟩)).1
theorem vs_eq {q p : Nat} (hf : f < 5) (hq : q ≤ 5) (t1 : tabOK (B 58)) (q1 : W (89 + 7 * f) 13 = nI q) (q2 : W2 145 f = nI q) (q4 : ∀ k, k < q → ccN W2 f k < 729 ∧ pickV (W (89 + 7 * f + 4)) 240 (W (89 + 7 * f + 5) k) = nI (ccN W2 f k)) (hp : p < 64) : vlV W B f (nI p) = vaI W2 f (nI p) := by
  unfold vlV rsV vaI rcP sK
  rw [q1, nI_clamp (by omega), nI_clamp (show f < 2 ^ 31 by omega), q2, nI_clamp (show q < 2 ^ 31 by omega)]
  exact vl_eq t1 hp (fun i hi => ⟨(q4 i hi).1, by unfold choP; rw [(q4 i hi).2, ptsV_nI (q4 i hi).1]⟩)
theorem two_run0 (hS2 : x_S2 X) (h : Inv MI ML MR r S A Gn b K u bi bo w) : Two X yX10_run cX10_run 5 (some .int) [.ref 0, .int x, .int y, .int 0] yX11_run cX11_run 5 (some .int) [.ref 124, .int x, .int y, .int 0] MI ML MR := by
  have hIc := h.2.1.2.2.1
  refine two_sh (d2 := 13) h (by decide) (by decide) (c_X10_run_0 h.1.1 hS2 hIc.2.2.1.2.1 hIc.2.2.2.2.1.1 h.2.2.2.1) (fun r0 W B C hz => ?_)
  obtain ⟨rfl, hE, rfl, h8, h4⟩ := hz
  have hW := Inv_W h hE
  refine ⟨rfl, hE, _, _, rfl, c_X11_run_0 h.1.1 (Bs_m hW) (rCc_shE h hE) hW.1.2.2, fun r2 W2 B2 C2 hy => rQ_im hy (fun a hF hC hP => ?_)⟩
  obtain ⟨h1, hP⟩ := hP
  obtain ⟨e1, e2, -⟩ := few_rc h.1.2.2.1 hIc.2.2.1.2.1 hW hE.2.2.2.2.2.1 h4 hF hC h1
  have e : r0Ans x y W B = rrC W2 x y := by
    unfold r0Ans rrC
    rw [← e1, show inB y 0 728 = inR y 729 from inB_R (N := 728) (by decide)]
    by_cases z : fewTr W x = 0
    · rw [if_pos z, if_pos z]
      obtain ⟨f, q, hf, rfl, cf, hq, q1, q2, q3, q4, ok⟩ := e2 z
      by_cases y1 : inR y 729 = true
      · rw [if_pos y1, if_pos y1]
        obtain ⟨k, hk, rfl⟩ := inR_ex (N := 729) (by decide) (inR_t.mp y1).1 (inR_t.mp y1).2
        rw [nI_clamp (show k < 2 ^ 31 by omega), ptsV_nI hk, cf, rs_eq hf hq hW.1.1 q1 q2 q4 hk]
      · rw [if_neg y1, if_neg y1]
    · rw [if_neg z, if_neg z]
  rw [← e] at hP
  exact sh_fin h8 (Prod.ext hP.1.symm hP.2.symm) (by unfold r0Ans; (repeat' split) <;> first | exact (show ¬ (0 : Int32) = 4 by decide) | exact (show ¬ (1 : Int32) = 4 by decide) | exact (show ¬ (2 : Int32) = 4 by decide) | exact (show ¬ (3 : Int32) = 4 by decide) | exact (show ¬ (5 : Int32) = 4 by decide) | exact funTr_4 | exact fewTr_4)
theorem in_eq (hB : Bs W B r S A Gn b K u bi bo w) : (rIF W x = true ∧ rIA W y = true ↔ inR x 5 = true ∧ inR y (W 1 6) = true) ∧ (rIA W y = true ↔ inR y (W 1 6) = true) ∧ (inR y (W 1 6) = true → ¬ W 1 0 = 0) := by
  obtain ⟨h01, ht, ⟨-, hA, -⟩, -, ⟨s1, s2⟩, -, -, -, -, h0⟩ := hB.2.2.1
  have hBx : inB x 0 4 = inR x 5 := inB_R (N := 4) (by decide)
  unfold rIF rIA
  rw [hBx, s1, s2, ht]
  rcases h01 with z | z
  · obtain ⟨-, rfl, -⟩ := h0 z
    have d0 : decide (¬ W 1 0 = 0) = false := decide_eq_false (fun q => q z)
    rw [d0, Bool.false_and, Bool.false_and]
    exact ⟨⟨fun q => (by cases q.1), fun q => absurd q.2 inR_0⟩, ⟨fun q => (by cases q), fun q => absurd q inR_0⟩, fun q => absurd q inR_0⟩
  · have z1 : ¬ W 1 0 = 0 := by rw [z]; decide
    have d0 : decide (¬ W 1 0 = 0) = true := decide_eq_true z1
    rw [d0, Bool.true_and, Bool.true_and]
    exact ⟨Iff.rfl, Iff.rfl, fun _ => z1⟩
theorem two_runBurst0 (hS2 : x_S2 X) (h : Inv MI ML MR r S A Gn b K u bi bo w) : Two X yX10_runBurst cX10_runBurst 5 (some .int) [.ref 0, .int x, .int y, .int 0] yX11_runBurst cX11_runBurst 5 (some .int) [.ref 124, .int x, .int y, .int 0] MI ML MR := by
  have hIc := h.2.1.2.2.1
  refine two_sh (d2 := 13) h (by decide) (by decide) (c_X10_runBurst_0 h.1.1 hS2 hIc.2.2.1.2.1 hIc.2.2.2.2.1.1 h.2.2.2.1) (fun r0 W B C hz => ?_)
  obtain ⟨rfl, hE, rfl, h8, h4⟩ := hz
  have hW := Inv_W h hE
  refine ⟨rfl, hE, _, _, rfl, c_X11_runBurst_0 h.1.1 (Bs_m hW) (rCc_shE h hE) hW.1.2.2, fun r2 W2 B2 C2 hy => rQ_im hy (fun a hF hC hP => ?_)⟩
  obtain ⟨h1, hP⟩ := hP
  have k2 : rIF W2 x = rIF W x ∧ rIA W2 y = rIA W y := by
    unfold rIF rIA
    rw [hF.2 20 (by decide) (by decide) (by decide) (by decide) (by decide) (by decide) (by decide), hF.1 128 (by decide) (by decide)]
    exact ⟨rfl, rfl⟩
  have e : b0Ans x y W B = rbC W2 x y := by
    unfold b0Ans rbC
    rw [k2.1, k2.2] at h1
    rw [k2.1, k2.2]
    by_cases c : inR x 5 = true ∧ inR y (W 1 6) = true
    · have c' := (in_eq hW).1.mpr c
      rw [if_pos c, if_pos c']
      obtain ⟨e1, e2, -⟩ := few_rc h.1.2.2.1 hIc.2.2.1.2.1 hW hE.2.2.2.2.2.1 (h4 c.2) hF hC (h1 c')
      rw [← e1]
      by_cases z : fewTr W x = 0
      · rw [if_pos z, if_pos z]
        obtain ⟨f, q, hf, rfl, cf, hq, q1, q2, q3, q4, ok⟩ := e2 z
        have zf : funTr W (nI f) = 0 := Classical.byContradiction fun q => by
          unfold fewTr at z
          rw [if_neg q] at z
          exact q z
        obtain ⟨n1, n2, -⟩ := funTr_0 zf
        have hAr := hW.2.2.1.2.2.2.2.1.1
        have hA8 := hIc.2.2.1.2.1
        have c2 := c.2
        rw [hAr] at c2
        obtain ⟨i, hi, rfl⟩ := inR_ex (N := A) (by omega) (inR_t.mp c2).1 (inR_t.mp c2).2
        rw [nI_clamp (show i < 2 ^ 31 by omega), cf]
        obtain ⟨m, hm, em⟩ := numC_in (pointV (W 135) (W 128) (arR W i 0)) (arR W i 2 ||| arR W i 3)
        have em' : bcR W i = nI m := em
        have eb : bcR W2 i = nI m := by
          rw [← em']
          exact bcR_cg (hF.1 128 (by decide) (by decide)) (hF.1 135 (by decide) (by decide)) i
        rw [(lnk_dsc (Bs_l hW n1 n2).1 hi).1, em', eb, nI_clamp (show m < 2 ^ 31 by omega), ptsV_nI hm, rs_eq hf hq hW.1.1 q1 q2 q4 hm]
      · rw [if_neg z, if_neg z]
    · have c' : ¬ (rIF W x = true ∧ rIA W y = true) := fun q => c ((in_eq hW).1.mp q)
      rw [if_neg c, if_neg c']
  rw [← e] at hP
  exact sh_fin h8 (Prod.ext hP.1.symm hP.2.symm) (by unfold b0Ans; (repeat' split) <;> first | exact (show ¬ (0 : Int32) = 4 by decide) | exact (show ¬ (1 : Int32) = 4 by decide) | exact (show ¬ (2 : Int32) = 4 by decide) | exact (show ¬ (3 : Int32) = 4 by decide) | exact (show ¬ (5 : Int32) = 4 by decide) | exact funTr_4 | exact fewTr_4)
/-- feedback round by round -/
theorem se_gr {v3 v4 : Int32 → Int32} {p : Nat} (hp : p < 16) (h3 : ∀ c, c < 4 → v3 (nI p ||| (nI c <<< ((4 : Int32) &&& 31))) = vaI W2 3 (nI p ||| nI c <<< ((4 : Int32) &&& 31)) ∧ v4 (nI p ||| (nI c <<< ((4 : Int32) &&& 31))) = vaI W2 4 (nI p ||| nI c <<< ((4 : Int32) &&& 31))) (hn : ∀ c, c < 4 → ∃ d, d < 4 ∧ grN W2 (nI p) (nI c) = nI d) : ∀ k rr c, c < 4 → ((seR v3 v4 (nI p) k rr (nI c)).2, opt2 (seR v3 v4 (nI p) k rr (nI c)).1) = grS W2 (nI p) k (nI c) rr := by
  intro k
  induction k with
  | zero => intro rr c _; rfl
  | succ k ih =>
    intro rr c hc
    obtain ⟨e3, e4⟩ := h3 c hc
    have eN : v3 (nI p ||| (nI c <<< ((4 : Int32) &&& 31))) ||| (v4 (nI p ||| (nI c <<< ((4 : Int32) &&& 31))) <<< ((1 : Int32) &&& 31)) = grN W2 (nI p) (nI c) := by
      rw [e3, e4]; rfl
    rw [seR, grS, eN]
    by_cases z : grN W2 (nI p) (nI c) = nI c
    · rw [if_pos z, if_pos z]; rfl
    · rw [if_neg z, if_neg z]
      obtain ⟨d, hd, ed⟩ := hn c hc
      rw [ed]
      exact ih (rr + 1) d hd
end shz

/-! calls that ask of PRIMES, FEWEST, of runs with a cover -/
section shx
variable {X : xG} {MI W W2 V : Mi} {ML B : Nat → Nat → Int64} {MR : Nat → Nat → Option Nat} {r : Nat → Nat} {S A Gn b K u bi bo w f : Nat} {x y : Int32}
theorem rQ_im {P P' : Mi → Int32 → Int32 → Prop} {r2 : Option Value} {B2 : Nat → Nat → Int64} {C2 : Nat → Nat → Option Nat} (h : rQ W B MR A b P r2 W2 B2 C2) (hi : ∀ a, rF2 W W2 → rCc W B A b W2 → P W2 a (W2 124 1) → P' W2 a (W2 124 1)) : rQ W B MR A b P' r2 W2 B2 C2 := by
  obtain ⟨q0, q1, q2, q3, q4, q5, a, q6, q7⟩ := h
  exact ⟨q0, q1, q2, q3, q4, q5, a, q6, hi a q2 q3 q7⟩
theorem sh_fin {ans : Int32 × Int32} {a w1 : Int32} (h8 : W 0 8 = ans.2) (e : ans = (a, w1)) (h4 : ¬ ans.2 = 4) : a = ans.1 ∧ w1 = W 0 8 ∧ ¬ w1 = 4 := by
  subst e
  exact ⟨rfl, h8.symm, h4⟩
theorem getD_nI (L : List Nat) {i : Nat} (hi : i < L.length) : (L.map nI).getD i 0 = nI (L.getD i 0) := by
  rw [List.getD_eq_getElem?_getD, List.getElem?_map, List.getD_eq_getElem?_getD, List.getElem?_eq_getElem hi]
  rfl
/-- at 'th W' -/
theorem sh_useV (hr : ∀ k, k < 12 → r k < 12) (hB : Bs W B r S A Gn b K u bi bo w) (hI : shI W B A) (h4 : funTr W x = 0 → W (89 + 7 * x.toNatClampNeg) 4 = 1) (h0 : funTr W x = 0) (hV : V = th W) : ∃ f, f < 5 ∧ x = nI f ∧ x.toNatClampNeg = f ∧ lnk V A S b ∧ (tabOK (B 58) ∧ tabOK (B 125) ∧ B 49 f = B 138 f) ∧ ShOK V B A f ∧ ∀ c, 89 ≤ c → c ≤ 123 → W c = V c := by
  subst hV
  have hV := Bs_th hr hB
  obtain ⟨f, hf, e1, e2, e3, e4, e5⟩ := sh_use hV (shI_th hI) (fun z2 => by
        have := h4 z2
        obtain ⟨-, -, f, hf, rfl⟩ := funTr_0 z2
        rw [nI_clamp (by omega)] at this ⊢
        rw [th_b (by omega)]
        exact this) h0
  exact ⟨f, hf, e1, e2, e3, ⟨hB.1.1, hB.1.2.1, (e4 f hf).1⟩, e5, fun c _ _ => (th_b (by omega)).symm⟩
theorem two_primes (hS2 : x_S2 X) (h : Inv MI ML MR r S A Gn b K u bi bo w) : Two X yX10_primes cX10_primes 3 (some .int) [.ref 0, .int x] yX11_primes cX11_primes 3 (some .int) [.ref 124, .int x] MI ML MR := by
  have hIc := h.2.1.2.2.1
  refine two_sh (d2 := 7) h (by decide) (by decide) (c_X10_primes h.1.1 hS2 hIc.2.2.1.2.1 hIc.2.2.2.2.1.1 h.2.2.2.1) (fun r0 W B C hz => ?_)
  obtain ⟨rfl, hE, rfl, h8, h4⟩ := hz
  have hW := Inv_W h hE
  refine ⟨rfl, hE, _, _, rfl, c_X11_primes h.1.1 (Bs_m hW) (rCc_shE h hE), fun r2 W2 B2 C2 hy => rQ_im hy (fun a hF hC hP => ?_)⟩
  have eT : rTr (th W) x = funTr W x := (Bs_tr hW x).symm
  rw [eT] at hP
  refine sh_fin h8 ?_ (by unfold fdAns; (repeat' split) <;> first | exact (show ¬ (0 : Int32) = 4 by decide) | exact (show ¬ (1 : Int32) = 4 by decide) | exact (show ¬ (2 : Int32) = 4 by decide) | exact (show ¬ (3 : Int32) = 4 by decide) | exact (show ¬ (5 : Int32) = 4 by decide) | exact funTr_4 | exact fewTr_4)
  unfold fdAns
  by_cases z : funTr W x = 0
  · rw [if_pos z] at hP ⊢
    obtain ⟨f, hf, rfl, cf, hl, ⟨t1, t2, hD⟩, ok, eV⟩ := sh_useV h.1.2.2.1 hW hE.2.2.2.2.2.1 (h4 trivial) z rfl
    rw [cf] at hP ⊢
    rw [hP.1, hP.2, eV _ (by omega) (by omega), ok.2.2.2.1, primes_eq hl hf t1 t2 hD, List.length_map]
  · rw [if_neg z] at hP ⊢
    rw [hP.1, hP.2]
theorem two_prime (hS2 : x_S2 X) (h : Inv MI ML MR r S A Gn b K u bi bo w) : Two X yX10_prime cX10_prime 4 (some .int) [.ref 0, .int x, .int y] yX11_prime cX11_prime 4 (some .int) [.ref 124, .int x, .int y] MI ML MR := by
  have hIc := h.2.1.2.2.1
  refine two_sh (d2 := 7) h (by decide) (by decide) (c_X10_prime h.1.1 hS2 hIc.2.2.1.2.1 hIc.2.2.2.2.1.1 h.2.2.2.1) (fun r0 W B C hz => ?_)
  obtain ⟨rfl, hE, rfl, h8, h4⟩ := hz
  have hW := Inv_W h hE
  refine ⟨rfl, hE, _, _, rfl, c_X11_prime h.1.1 (Bs_m hW) (rCc_shE h hE), fun r2 W2 B2 C2 hy => rQ_im hy (fun a hF hC hP => ?_)⟩
  have eT : rTr (th W) x = funTr W x := (Bs_tr hW x).symm
  rw [eT] at hP
  refine sh_fin h8 ?_ (by unfold ixAns; (repeat' split) <;> first | exact (show ¬ (0 : Int32) = 4 by decide) | exact (show ¬ (1 : Int32) = 4 by decide) | exact (show ¬ (2 : Int32) = 4 by decide) | exact (show ¬ (3 : Int32) = 4 by decide) | exact (show ¬ (5 : Int32) = 4 by decide) | exact funTr_4 | exact fewTr_4)
  unfold ixAns
  by_cases z : funTr W x = 0
  · rw [if_pos z] at hP ⊢
    by_cases y0 : y < 0
    · have n1 : ∀ q, ¬ inR y q = true := fun q z => (inR_t.mp z).1 y0
      rw [if_neg (n1 _)] at hP ⊢
      rw [hP.1, hP.2]
    obtain ⟨f, hf, rfl, cf, hl, ⟨t1, t2, hD⟩, ok, eV⟩ := sh_useV h.1.2.2.1 hW hE.2.2.2.2.2.1 (h4 y0) z rfl
    have e1 := primes_eq hl hf t1 t2 hD
    have l1 : (plR (th W) B A f).length ≤ 729 := plR_len _ _ _ _
    have l2 : (zPL (th W) B A f).length ≤ 240 := by
      unfold zPL
      rw [List.length_reverse]
      exact gpS_len _ _ _ _ _ _
    rw [e1, List.length_map] at l2
    rw [cf] at hP ⊢
    rw [eV _ (by omega) (by omega), eV _ (by omega) (by omega), ok.2.2.2.1, e1, List.length_map]
    by_cases y1 : inR y (nI (plR (th W) B A f).length) = true
    · rw [if_pos y1] at hP ⊢
      obtain ⟨k, hk, rfl⟩ := inR_ex (by omega) (inR_t.mp y1).1 (inR_t.mp y1).2
      rw [nI_clamp (by omega)] at hP
      rw [hP.1, hP.2, pickV_nI _ (by omega) (by decide), ok.2.2.2.2.1 k (by rw [e1, List.length_map]; exact hk), e1, getD_nI _ hk]
    · rw [if_neg y1] at hP ⊢
      rw [hP.1, hP.2]
  · rw [if_neg z] at hP ⊢
    rw [hP.1, hP.2]
theorem two_needed (hS2 : x_S2 X) (h : Inv MI ML MR r S A Gn b K u bi bo w) : Two X yX10_needed cX10_needed 3 (some .int) [.ref 0, .int x] yX11_needed cX11_needed 5 (some .int) [.ref 124, .int x] MI ML MR := by
  have hIc := h.2.1.2.2.1
  refine two_sh (d2 := 7) h (by decide) (by decide) (c_X10_needed h.1.1 hS2 hIc.2.2.1.2.1 hIc.2.2.2.2.1.1 h.2.2.2.1) (fun r0 W B C hz => ?_)
  obtain ⟨rfl, hE, rfl, h8, h4⟩ := hz
  have hW := Inv_W h hE
  refine ⟨rfl, hE, _, _, rfl, c_X11_needed h.1.1 (Bs_m hW) (rCc_shE h hE), fun r2 W2 B2 C2 hy => rQ_im hy (fun a hF hC hP => ?_)⟩
  have eT : rTr (th W) x = funTr W x := (Bs_tr hW x).symm
  rw [eT] at hP
  refine sh_fin h8 ?_ (by unfold fdAns; (repeat' split) <;> first | exact (show ¬ (0 : Int32) = 4 by decide) | exact (show ¬ (1 : Int32) = 4 by decide) | exact (show ¬ (2 : Int32) = 4 by decide) | exact (show ¬ (3 : Int32) = 4 by decide) | exact (show ¬ (5 : Int32) = 4 by decide) | exact funTr_4 | exact fewTr_4)
  unfold fdAns
  by_cases z : funTr W x = 0
  · rw [if_pos z] at hP ⊢
    obtain ⟨f, hf, rfl, cf, hl, ⟨t1, t2, hD⟩, ok, eV⟩ := sh_useV h.1.2.2.1 hW hE.2.2.2.2.2.1 (h4 trivial) z rfl
    rw [cf] at hP ⊢
    rw [hP.1, hP.2, eV _ (by omega) (by omega), (sheet_eq hl hf t1 t2 hD ok).1]
  · rw [if_neg z] at hP ⊢
    rw [hP.1, hP.2]
theorem two_lacking (hS2 : x_S2 X) (h : Inv MI ML MR r S A Gn b K u bi bo w) : Two X yX10_lacking cX10_lacking 3 (some .int) [.ref 0, .int x] yX11_lacking cX11_lacking 3 (some .int) [.ref 124, .int x] MI ML MR := by
  have hIc := h.2.1.2.2.1
  refine two_sh (d2 := 8) h (by decide) (by decide) (c_X10_lacking h.1.1 hS2 hIc.2.2.1.2.1 hIc.2.2.2.2.1.1 h.2.2.2.1) (fun r0 W B C hz => ?_)
  obtain ⟨rfl, hE, rfl, h8, h4⟩ := hz
  have hW := Inv_W h hE
  refine ⟨rfl, hE, _, _, rfl, c_X11_lacking h.1.1 (Bs_m hW) (rCc_shE h hE), fun r2 W2 B2 C2 hy => rQ_im hy (fun a hF hC hP => ?_)⟩
  have eT : rTr (th W) x = funTr W x := (Bs_tr hW x).symm
  rw [eT] at hP
  refine sh_fin h8 ?_ (by unfold fdAns; (repeat' split) <;> first | exact (show ¬ (0 : Int32) = 4 by decide) | exact (show ¬ (1 : Int32) = 4 by decide) | exact (show ¬ (2 : Int32) = 4 by decide) | exact (show ¬ (3 : Int32) = 4 by decide) | exact (show ¬ (5 : Int32) = 4 by decide) | exact funTr_4 | exact fewTr_4)
  unfold fdAns
  by_cases z : funTr W x = 0
  · rw [if_pos z] at hP ⊢
    obtain ⟨f, hf, rfl, cf, hl, ⟨t1, t2, hD⟩, ok, eV⟩ := sh_useV h.1.2.2.1 hW hE.2.2.2.2.2.1 (h4 trivial) z rfl
    rw [cf] at hP ⊢
    rw [hP.1, hP.2, eV _ (by omega) (by omega), (sheet_eq hl hf t1 t2 hD ok).2.1]
  · rw [if_neg z] at hP ⊢
    rw [hP.1, hP.2]
/-- FEWEST of class and reference, and the CUBES chosen -/
theorem cov_use (hA : A ≤ 8) (hf : f < 5) (hl : lnk V A S b) (t1 : tabOK (B 58)) (t2 : tabOK (B 125)) (hD : B 49 f = B 138 f) (ok : ShOK V B A f) (hC : rCc V B A b W2) (h1 : W2 141 f = 1) : V (89 + 7 * f) 13 = W2 145 f ∧ ∀ q, q ≤ 5 → W2 145 f = nI q → (∀ k, k < q → V (89 + 7 * f + 5) k = W2 146 (5 * f + k)) ∧ ∀ k, k < q → ccN W2 f k < 729 ∧ pickV (V (89 + 7 * f + 4)) 240 (V (89 + 7 * f + 5) k) = nI (ccN W2 f k) := by
  obtain ⟨c1, c2⟩ := rCc_cq hf hC h1
  obtain ⟨s1, s2⟩ := (sheet_eq hl hf t1 t2 hD ok).2.2 _ _ c2
  refine ⟨s1, fun q hq he => ?_⟩
  have s3 := s2 q hq he
  refine ⟨s3, fun k hk => ?_⟩
  have e1 := primes_eq hl hf t1 t2 hD
  have l2 : (zPL V B A f).length ≤ 240 := by
    unfold zPL
    rw [List.length_reverse]
    exact gpS_len _ _ _ _ _ _
  rw [e1, List.length_map] at l2
  obtain ⟨i, hi, i2, i3⟩ := cc_pl hA hf hC h1 hq he k hk
  have hlt : (plR V B A f).getD i 0 < 729 := prQ_lt hi
  rw [s3 k hk, i2, pickV_nI _ (by omega) (by decide), ok.2.2.2.2.1 i (by rw [e1, List.length_map]; exact hi), e1, getD_nI _ hi, i3]
  exact ⟨hlt, rfl⟩
/-- whether FEWEST is there -/
theorem few_rc (hr : ∀ k, k < 12 → r k < 12) (hA : A ≤ 8) (hW : Bs W B r S A Gn b K u bi bo w) (hI : shI W B A) (h4 : funTr W x = 0 → W (89 + 7 * x.toNatClampNeg) 4 = 1) (hF : rF2 W W2) (hC : rCc W B A b W2) (h1 : rTr W2 x = 0 → W2 141 x.toNatClampNeg = 1) : fewTr W x = rcT W2 x ∧ (fewTr W x = 0 → ∃ f q, f < 5 ∧ x = nI f ∧ x.toNatClampNeg = f ∧ q ≤ 5 ∧ W (89 + 7 * f) 13 = nI q ∧ W2 145 f = nI q ∧ (∀ k, k < q → W (89 + 7 * f + 5) k = W2 146 (5 * f + k)) ∧ (∀ k, k < q → ccN W2 f k < 729 ∧ pickV (W (89 + 7 * f + 4)) 240 (W (89 + 7 * f + 5) k) = nI (ccN W2 f k)) ∧ ShOK (th W) B A f) ∧ (funTr W x = 0 → ∃ f, f < 5 ∧ x = nI f ∧ x.toNatClampNeg = f ∧ W (89 + 7 * f) 13 = W2 145 f) := by
  have eT : rTr W2 x = funTr W x := by
    rw [Bs_tr hW x]
    unfold rTr rIF
    rw [hF.2 20 (by decide) (by decide) (by decide) (by decide) (by decide) (by decide) (by decide), hF.2 27 (by decide) (by decide) (by decide) (by decide) (by decide) (by decide) (by decide)]
  have hCV : rCc (th W) B A b W2 := rCc_cg (th_b (by decide)) (th_b (by decide)) (th_b (by decide)) rfl rfl hC
  unfold fewTr rcT
  rw [eT] at h1 ⊢
  by_cases z : funTr W x = 0
  · rw [if_pos z, if_pos z]
    obtain ⟨f, hf, rfl, cf, hl, ⟨t1, t2, hD⟩, ok, eV⟩ := sh_useV hr hW hI h4 z rfl
    have h1' := h1 z
    rw [cf] at h1' ⊢
    obtain ⟨c1, c2⟩ := cov_use hA hf hl t1 t2 hD ok hCV h1'
    rw [← eV _ (by omega) (by omega)] at c1
    rw [c1]
    refine ⟨rfl, fun z2 => ?_, fun _ => ⟨f, hf, rfl, rfl, c1⟩⟩
    have hb5 : inB (W2 145 f) 0 5 = true := Classical.byContradiction fun q => by
      have q' : ¬ hasF (W2 145 f) = true := q
      rw [if_neg q'] at z2
      exact absurd z2 (by decide)
    obtain ⟨q, hq, hqe⟩ := inB_ex (N := 5) (by decide) hb5
    obtain ⟨c3, c4⟩ := c2 q (by omega) hqe
    refine ⟨f, q, hf, rfl, rfl, by omega, c1.trans hqe, hqe, ?_, ?_, ok⟩
    · intro k hk
      rw [eV _ (by omega) (by omega)]
      exact c3 k hk
    · intro k hk
      rw [eV _ (by omega) (by omega), eV (89 + 7 * f + 5) (by omega) (by omega)]
      exact c4 k hk
  · rw [if_neg z, if_neg z]
    exact ⟨rfl, fun q => absurd q z, fun q => absurd q z⟩
theorem fewTr_4 : ¬ fewTr W x = 4 := by
  unfold fewTr
  (repeat' split) <;> first | exact (show ¬ (0 : Int32) = 4 by decide) | exact (show ¬ (1 : Int32) = 4 by decide) | exact (show ¬ (2 : Int32) = 4 by decide) | exact (show ¬ (3 : Int32) = 4 by decide) | exact (show ¬ (5 : Int32) = 4 by decide) | exact funTr_4 | exact fewTr_4
end shx

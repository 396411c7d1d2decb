/-! calls that ask of the sheets -/
section shs
variable {X : xG} {MI W : Mi} {ML B : Nat → Nat → Int64} {MR : Nat → Nat → Option Nat} {r : Nat → Nat} {S A Gn b K u bi bo w : Nat} {x y : Int32}
theorem Bs_th (hr : ∀ k, k < 12 → r k < 12) (h : Bs W B r S A Gn b K u bi bo w) : Bs (th W) B r S A Gn b K u bi bo w :=
  Bs_Fr hr ⟨fun c _ _ _ z _ => th_b (by omega), by rw [th_b (by decide)], fun j _ _ _ _ => u2_ne _ _ (by omega), fun _ _ => rfl⟩ h
theorem shI_th (h : shI W B A) : shI (th W) B A := shI_cg ⟨by rw [th_b (by decide)], fun c hc => th_b (by omega), rfl, rfl⟩ (fun c _ _ => ⟨th_b (by omega), rfl⟩) h
theorem fun_th : funTr (th W) x = funTr W x := rfl
/-- a sheet that was asked for -/
theorem sh_use (hB : Bs W B r S A Gn b K u bi bo w) (hI : shI W B A) (h4 : funTr W x = 0 → W (89 + 7 * x.toNatClampNeg) 4 = 1) (h0 : funTr W x = 0) : ∃ f, f < 5 ∧ x = nI f ∧ x.toNatClampNeg = f ∧ lnk W A S b ∧ Dg B ∧ ShOK W B A f := by
  obtain ⟨n1, n2, f, hf, rfl⟩ := funTr_0 h0
  have cf : (nI f).toNatClampNeg = f := nI_clamp (by omega)
  have h4' := h4 h0
  rw [cf] at h4'
  refine ⟨f, hf, rfl, cf, (Bs_l hB n1 n2).1, (Bs_l hB n1 n2).2, ?_⟩
  rcases (hI f hf).2 with z | z
  · rw [z] at h4'; exact absurd h4' (by decide)
  · exact z.2
/-- the call's end, where the reference's cells are written -/
theorem sh_end {V : Mi} {v w1 : Int32} {a : Int32 × Int32} (hC : rCc W B A b W) (h : ∀ c, c ≠ 139 → c ≠ 124 → V c = W c) (h2 : ∀ j, j ≠ 0 → j ≠ 32 → V 124 j = W 124 j) (h0 : V 124 0 = 0) (h8 : W 0 8 = a.2) (he : a = (v, w1)) (hw : ¬ w1 = 4) : rQ W B MR A b (fun _ v2 w2 => v2 = a.1 ∧ w2 = W 0 8 ∧ ¬ w2 = 4) (some (.int v)) (rfM V w1) B MR := by
  subst he
  exact rQ_rf hC h h2 h0 ⟨rfl, h8.symm, hw⟩
theorem rqW_o : (∀ c, c ≠ 139 → c ≠ 124 → rqW (th W) A b x c = W c) ∧ (∀ j, j ≠ 0 → j ≠ 32 → rqW (th W) A b x 124 j = W 124 j) ∧ rqW (th W) A b x 124 0 = 0 := by
  unfold rqW
  split
  · unfold ndM
    refine ⟨fun c h1 h2 => ?_, fun j j0 j2 => ?_, ?_⟩
    · rw [u2_row _ _ h2, sr_ne _ _ h1, th_b h2]
    · rw [u2_ne _ _ (by omega), sr_ne _ _ (by decide)]
      exact u2_ne _ _ (by omega)
    · rw [u2_ne _ _ (by omega), sr_ne _ _ (by decide)]
      exact u2_eq _ _ _ _
  · exact ⟨fun c _ h2 => th_b h2, fun j j0 _ => u2_ne _ _ (by omega), u2_eq _ _ _ _⟩
theorem two_required (hS2 : x_S2 X) (h : Inv MI ML MR r S A Gn b K u bi bo w) : Two X yX10_required cX10_required 3 (some .int) [.ref 0, .int x] yX11_required cX11_required 3 (some .int) [.ref 124, .int x] MI ML MR := by
  have hIc := h.2.1.2.2.1
  refine two_sh (d2 := 6) h (by decide) (by decide) (c_X10_required h.1.1 hS2 hIc.2.2.1.2.1 hIc.2.2.2.2.1.1 h.2.2.2.1) (fun r0 W B C hz => ?_)
  obtain ⟨rfl, hE, rfl, h8, h4⟩ := hz
  have hW := Inv_W h hE
  have hV := Bs_th h.1.2.2.1 hW
  obtain ⟨m1, m2, m3, m4, m5, m6⟩ := Bs_m hW
  refine ⟨rfl, hE, _, _, rfl, c_X11_required h.1.1 m1 m2 m3 m4 m5 m6, fun r2 W2 B2 C2 hy => ?_⟩
  obtain ⟨rfl, rfl, rfl, rfl⟩ := hy
  have e : fdAns 6 x W = rqAns (th W) A b x := by
    unfold fdAns rqAns
    rw [← Bs_tr hV x, fun_th]
    by_cases z : funTr W x = 0
    · rw [if_pos z, if_pos z]
      obtain ⟨f, hf, rfl, cf, hl, hD, ok⟩ := sh_use hW hE.2.2.2.2.2.1 (h4 trivial) z
      rw [cf, ok.1, req_eq hl hf, rqL_cg2 (V := W) (W := th W) (th_b (by decide)) (th_b (by decide)) (th_b (by decide))]
    · rw [if_neg z, if_neg z]
  refine sh_end (rCc_shE h hE) rqW_o.1 rqW_o.2.1 rqW_o.2.2 h8 e ?_
  rw [← e]
  unfold fdAns
  (repeat' split) <;> first | exact (show ¬ (0 : Int32) = 4 by decide) | exact (show ¬ (1 : Int32) = 4 by decide) | exact (show ¬ (2 : Int32) = 4 by decide) | exact (show ¬ (3 : Int32) = 4 by decide) | exact (show ¬ (5 : Int32) = 4 by decide) | exact funTr_4 | exact fewTr_4
theorem two_requiredCube (hS2 : x_S2 X) (h : Inv MI ML MR r S A Gn b K u bi bo w) : Two X yX10_requiredCube cX10_requiredCube 4 (some .int) [.ref 0, .int x, .int y] yX11_requiredCube cX11_requiredCube 4 (some .int) [.ref 124, .int x, .int y] MI ML MR := by
  have hIc := h.2.1.2.2.1
  refine two_sh (d2 := 6) h (by decide) (by decide) (c_X10_requiredCube h.1.1 hS2 hIc.2.2.1.2.1 hIc.2.2.2.2.1.1 h.2.2.2.1) (fun r0 W B C hz => ?_)
  obtain ⟨rfl, hE, rfl, h8, h4⟩ := hz
  have hW := Inv_W h hE
  have hV := Bs_th h.1.2.2.1 hW
  obtain ⟨m1, m2, m3, m4, m5, m6⟩ := Bs_m hW
  refine ⟨rfl, hE, _, _, rfl, c_X11_requiredCube h.1.1 m1 m2 m3 m4 m5 m6, fun r2 W2 B2 C2 hy => ?_⟩
  obtain ⟨rfl, rfl, rfl, rfl⟩ := hy
  have e : ixAns 6 1 33 x y W = rqcA (th W) A b x y := by
    unfold ixAns rqcA
    rw [← Bs_tr hV x, fun_th]
    by_cases z : funTr W x = 0
    · rw [if_pos z, if_pos z]
      by_cases y0 : y < 0
      · have n1 : ∀ q, ¬ inR y q = true := fun q z => (inR_t.mp z).1 y0
        rw [if_neg (n1 _), if_neg (n1 _)]
      obtain ⟨f, hf, rfl, cf, hl, hD, ok⟩ := sh_use hW hE.2.2.2.2.2.1 (h4 y0) z
      have eL : rqL (th W) (nI f) A b = reqL W (nI f) A := by
        rw [req_eq hl hf]
        exact rqL_cg2 (V := W) (W := th W) (th_b (by decide)) (th_b (by decide)) (th_b (by decide)) _ _ _
      rw [cf, ok.1, eL]
      have h33 : (reqL W (nI f) A).length ≤ 33 := by rw [req_eq hl hf]; exact rqL_len _ _ _ m1
      by_cases y1 : inR y (nI (reqL W (nI f) A).length) = true
      · rw [if_pos y1, if_pos y1]
        obtain ⟨k, hk, rfl⟩ := inR_ex (by omega) (inR_t.mp y1).1 (inR_t.mp y1).2
        rw [pickV_nI _ (by omega) (by decide), nI_clamp (by omega), ok.2.1 k hk]
      · rw [if_neg y1, if_neg y1]
    · rw [if_neg z, if_neg z]
  refine sh_end (rCc_shE h hE) rqW_o.1 rqW_o.2.1 rqW_o.2.2 h8 e ?_
  rw [← e]
  unfold ixAns
  (repeat' split) <;> first | exact (show ¬ (0 : Int32) = 4 by decide) | exact (show ¬ (1 : Int32) = 4 by decide) | exact (show ¬ (2 : Int32) = 4 by decide) | exact (show ¬ (3 : Int32) = 4 by decide) | exact (show ¬ (5 : Int32) = 4 by decide) | exact funTr_4 | exact fewTr_4
theorem two_falls (hS2 : x_S2 X) (h : Inv MI ML MR r S A Gn b K u bi bo w) : Two X yX10_falls cX10_falls 3 (some .int) [.ref 0, .int x] yX11_falls cX11_falls 5 (some .int) [.ref 124, .int x] MI ML MR := by
  have hIc := h.2.1.2.2.1
  refine two_sh (d2 := 5) h (by decide) (by decide) (c_X10_falls h.1.1 hS2 hIc.2.2.1.2.1 hIc.2.2.2.2.1.1 h.2.2.2.1) (fun r0 W B C hz => ?_)
  obtain ⟨rfl, hE, rfl, h8, h4⟩ := hz
  have hW := Inv_W h hE
  have hV := Bs_th h.1.2.2.1 hW
  obtain ⟨m1, m2, m3, m4, m5, m6⟩ := Bs_m hW
  refine ⟨rfl, hE, _, _, rfl, c_X11_falls h.1.1 m1 m2 m3 m4, fun r2 W2 B2 C2 hy => ?_⟩
  obtain ⟨rfl, rfl, rfl, rfl⟩ := hy
  have e : fdAns 9 x W = rflA (th W) A x := by
    unfold fdAns rflA
    rw [← Bs_tr hV x, fun_th]
    by_cases z : funTr W x = 0
    · rw [if_pos z, if_pos z]
      obtain ⟨f, hf, rfl, cf, hl, hD, ok⟩ := sh_use hV (shI_th hE.2.2.2.2.2.1) (fun z2 => by
        have := h4 trivial z2
        obtain ⟨-, -, f, hf, rfl⟩ := funTr_0 z2
        rw [nI_clamp (by omega)] at this ⊢
        rw [th_b (by omega)]
        exact this) z
      have e9 := ok.2.2.1
      rw [th_b (by omega), falls_eq hl hf] at e9
      rw [cf, e9]
    · rw [if_neg z, if_neg z]
  refine sh_end (rCc_shE h hE) (fun c _ h2 => th_b h2) (fun j j0 _ => u2_ne _ _ (by omega)) (u2_eq _ _ _ _) h8 e ?_
  rw [← e]
  unfold fdAns
  (repeat' split) <;> first | exact (show ¬ (0 : Int32) = 4 by decide) | exact (show ¬ (1 : Int32) = 4 by decide) | exact (show ¬ (2 : Int32) = 4 by decide) | exact (show ¬ (3 : Int32) = 4 by decide) | exact (show ¬ (5 : Int32) = 4 by decide) | exact funTr_4 | exact fewTr_4
theorem two_safe (hS2 : x_S2 X) (h : Inv MI ML MR r S A Gn b K u bi bo w) : Two X yX10_safe cX10_safe 4 (some .int) [.ref 0, .int x, .int y] yX11_safe cX11_safe 4 (some .int) [.ref 124, .int x, .int y] MI ML MR := by
  have hIc := h.2.1.2.2.1
  refine two_sh (d2 := 6) h (by decide) (by decide) (c_X10_safe h.1.1 hS2 hIc.2.2.1.2.1 hIc.2.2.2.2.1.1 h.2.2.2.1) (fun r0 W B C hz => ?_)
  obtain ⟨rfl, hE, rfl, h8⟩ := hz
  have hW := Inv_W h hE
  have hV := Bs_th h.1.2.2.1 hW
  obtain ⟨m1, m2, m3, m4, m5, m6⟩ := Bs_m hW
  refine ⟨rfl, hE, _, _, rfl, c_X11_safe h.1.1 m1 m2 m3 m4, fun r2 W2 B2 C2 hy => ?_⟩
  obtain ⟨rfl, rfl, rfl, rfl⟩ := hy
  have e128 : (th W) 128 = MI 128 := (th_b (by decide)).trans (hE.2.2.1 128 (by decide))
  have e135 : (th W) 135 = MI 135 := (th_b (by decide)).trans (hE.2.2.1 135 (by decide))
  have e136 : (th W) 136 = MI 136 := (th_b (by decide)).trans (hE.2.2.1 136 (by decide))
  have eT : rTr (th W) x = rTr MI x := by
    show rTr W x = rTr MI x
    unfold rTr rIF
    rw [hE.2.2.1 124 (by decide)]
  have e : saAns MI ML A x y = rsfA (th W) B2 A x y := by
    unfold saAns rsfA
    rw [eT, ← Bs_tr h.2.1 x]
    by_cases z : funTr MI x = 0
    · rw [if_pos z, if_pos z, show inB y 0 728 = inR y 729 from inB_R (N := 728) (by decide)]
      obtain ⟨n1, n2, f, hf, rfl⟩ := funTr_0 z
      have cf : (nI f).toNatClampNeg = f := nI_clamp (by omega)
      rw [cf]
      by_cases y1 : inR y 729 = true
      · rw [if_pos y1, if_pos y1]
        obtain ⟨k, hk, rfl⟩ := inR_ex (N := 729) (by decide) (inR_t.mp y1).1 (inR_t.mp y1).2
        rw [nI_clamp (by omega), safe_eq (Bs_l h.2.1 n1 n2).1 hf h.2.1.1.1 h.2.1.1.2.1 ((Bs_l h.2.1 n1 n2).2 f hf).1 hk, sfP_cg e128 e135 e136 (hE.2.2.2.1 125 (by omega)) (hE.2.2.2.1 138 (by omega))]
      · rw [if_neg y1, if_neg y1]
    · rw [if_neg z, if_neg z]
  refine sh_end (rCc_shE h hE) (fun c _ h2 => th_b h2) (fun j j0 _ => u2_ne _ _ (by omega)) (u2_eq _ _ _ _) h8 e ?_
  rw [← e]
  unfold saAns
  (repeat' split) <;> first | exact (show ¬ (0 : Int32) = 4 by decide) | exact (show ¬ (1 : Int32) = 4 by decide) | exact (show ¬ (2 : Int32) = 4 by decide) | exact (show ¬ (3 : Int32) = 4 by decide) | exact (show ¬ (5 : Int32) = 4 by decide) | exact funTr_4 | exact fewTr_4
end shs

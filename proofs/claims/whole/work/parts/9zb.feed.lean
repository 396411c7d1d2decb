/-! feed, push, codings, coding -/
section fd
variable {X : xG} {MI W W2 V : Mi} {ML B : Nat → Nat → Int64} {MR : Nat → Nat → Option Nat} {r : Nat → Nat} {S A Gn b K u bi bo w f : Nat} {x y : Int32}
theorem two_feed (h : Inv MI ML MR r S A Gn b K u bi bo w) {c0 c1 c2 c3 c4 : Int32} : Two X yX10_feed cX10_feed 6 (some .int) [.ref 0, .int c0, .int c1, .int c2, .int c3, .int c4] yX11_feed cX11_feed 8 (some .int) [.ref 124, .int c0, .int c1, .int c2, .int c3, .int c4] MI ML MR := by
  obtain ⟨hT, hIt, hIc, h3⟩ := id h.2.1
  refine ⟨_, _, ?_, c_X10_feed h.1.1 hIt.1 hIt.2.1, fun r0 W B C hz => ?_⟩
  · decide
  obtain ⟨rfl, rfl, rfl, rfl⟩ := hz
  by_cases hu : u + 20 ≤ 600
  · rw [if_pos hu, if_pos hu]
    have e6 : fdM MI u c0 c1 c2 c3 c4 124 6 = nI u := (fdM_o (by decide) (by omega)).trans hIt.2.2.1
    refine ⟨_, _, _, rfl, ?_, c_X11_feed h.1.1 hIt.1 e6, fun r2 W2 B2 C2 hy => ?_⟩
    · decide
    obtain ⟨rfl, rfl, rfl, rfl⟩ := hy
    rw [if_pos hu, if_pos hu]
    obtain ⟨V, hV⟩ : ∃ V, V = rfd (th (fdM MI u c0 c1 c2 c3 c4)) u c0 c1 c2 c3 c4 20 := ⟨_, rfl⟩
    rw [← hV]
    have o : ∀ q j, q ≠ 15 → q ≠ 127 → ¬ (q = 14 ∧ j = 1) → ¬ (q = 124 ∧ (j = 0 ∨ j = 6)) → V q j = MI q j := fun q j z1 z2 z3 z4 => by rw [hV]; exact feed_oth z1 z2 z3 z4
    have oR : ∀ q, q ≠ 15 → q ≠ 127 → q ≠ 14 → q ≠ 124 → V q = MI q := fun q z1 z2 z3 z4 => funext fun j => o q j z1 z2 (by omega) (by omega)
    have hIt2 : It V (u + 20) := by rw [hV]; exact feed_It hIt hu
    refine ⟨rfl, r, S, A, Gn, b, K, u + 20, bi, bo, w, h.1, ⟨⟨hT.1, hT.2.1, ?_⟩, hIt2, ?_, ?_⟩, ⟨?_, ?_, ?_⟩, ?_, ?_, ?_⟩
    · unfold muOK
      rw [oR 126 (by decide) (by decide) (by decide) (by decide)]
      exact hT.2.2
    · obtain ⟨i1, i2, ⟨i3, i4, i5, i6, i7⟩, i8, i9, i10, i11, i12, i13, i14⟩ := hIc
      unfold Ic
      rw [oR 1 (by decide) (by decide) (by decide) (by decide), oR 128 (by decide) (by decide) (by decide) (by decide), oR 130 (by decide) (by decide) (by decide) (by decide), oR 29 (by decide) (by decide) (by decide) (by decide), o 124 20 (by decide) (by decide) (by omega) (by omega), o 124 19 (by decide) (by decide) (by omega) (by omega)]
      exact ⟨i1, i2, ⟨i3, i4, i5, i6, hu⟩, i8, i9, i10, i11, i12, ⟨hIt2.2.1, hIt2.2.2.1⟩, i14⟩
    · exact B3_Fr h.1.2.2.1 hIc.2.2.1.2.1 hIc.2.2.1.2.2.2.1 hIc.2.2.1.1 ⟨fun c z1 z2 z3 z4 _ => oR c z4 (by omega) z3 (by omega), fun c z1 z2 => oR c (by omega) (by omega) (by omega) (by omega), oR 85 (by decide) (by decide) (by decide) (by decide), fun j hj => o 124 j (by decide) (by decide) (by omega) (by omega), fun _ _ => rfl⟩ h3
    · rw [oR 0 (by decide) (by decide) (by decide) (by decide), o 124 1 (by decide) (by decide) (by omega) (by omega)]; exact h.2.2.1.1
    · rw [oR 0 (by decide) (by decide) (by decide) (by decide), o 14 4 (by decide) (by decide) (by omega) (by omega), o 124 2 (by decide) (by decide) (by omega) (by omega)]; exact h.2.2.1.2.1
    · rw [oR 0 (by decide) (by decide) (by decide) (by decide), o 124 12 (by decide) (by decide) (by omega) (by omega)]; exact h.2.2.1.2.2
    · exact shI_cg ⟨by rw [oR 1 (by decide) (by decide) (by decide) (by decide)], fun c hc => oR c (by omega) (by omega) (by omega) (by omega), rfl, rfl⟩ (fun c z1 z2 => ⟨oR c (by omega) (by omega) (by omega) (by omega), rfl⟩) h.2.2.2.1
    · exact rCc_cg (oR _ (by decide) (by decide) (by decide) (by decide)) (oR _ (by decide) (by decide) (by decide) (by decide)) (oR _ (by decide) (by decide) (by decide) (by decide)) rfl rfl (rCc_U (fun c z1 z2 => oR c (by omega) (by omega) (by omega) (by omega)) h.2.2.2.2.1)
    · exact Ig_cg (Inv_A h) (fun i hi => oR _ (by omega) (by omega) (by omega) (by omega)) (oR _ (by decide) (by decide) (by decide) (by decide)) (oR _ (by decide) (by decide) (by decide) (by decide)) (oR _ (by decide) (by decide) (by decide) (by decide)) (oR _ (by decide) (by decide) (by decide) (by decide)) h.2.2.2.2.2
  · rw [if_neg hu, if_neg hu]
    refine ⟨_, _, _, rfl, ?_, c_X11_feed h.1.1 hIt.1 hIt.2.2.1, fun r2 W2 B2 C2 hy => ?_⟩
    · decide
    obtain ⟨rfl, rfl, rfl, rfl⟩ := hy
    rw [if_neg hu, if_neg hu]
    exact ⟨rfl, r, S, A, Gn, b, K, u, bi, bo, w, inv_th h⟩
/-- where the walk alone changes -/
theorem inv_walk (h : Inv MI ML MR r S A Gn b K u bi bo w) {w2 : Nat} (o : ∀ q, q ≠ 0 → q ≠ 85 → q ≠ 124 → V q = MI q) (o0 : V 0 9 = MI 0 9) (o24 : ∀ j, 3 ≤ j → j ≠ 46 → j ≠ 47 → V 124 j = MI 124 j) (hk : Ik V S w2) (hw : V 0 8 = V 124 1) (h4 : ¬ V 0 8 = 4) (h2 : V 124 2 = -1) : Inv V ML MR r S A Gn b K u bi bo w2 := by
  obtain ⟨hT, hIt, hIc, h3⟩ := id h.2.1
  refine ⟨h.1, ⟨⟨hT.1, hT.2.1, ?_⟩, It_cg hIt ?_ ?_ ?_ ?_, Ic_cg hIc (o _ (by decide) (by decide) (by decide)) (o24 _ (by decide) (by decide) (by decide)) (o _ (by decide) (by decide) (by decide)) (o _ (by decide) (by decide) (by decide)) ?_ (o24 _ (by decide) (by decide) (by decide)) ?_ (o24 _ (by decide) (by decide) (by decide)), ?_⟩, ⟨hw, ?_, ?_⟩, ?_, ?_, ?_⟩
  · unfold muOK
    rw [o 126 (by decide) (by decide) (by decide)]
    exact hT.2.2
  · rw [o 14 (by decide) (by decide) (by decide)]
  · exact o24 _ (by decide) (by decide) (by decide)
  · exact o 15 (by decide) (by decide) (by decide)
  · exact o 127 (by decide) (by decide) (by decide)
  · rw [o 29 (by decide) (by decide) (by decide)]
  · rw [o 14 (by decide) (by decide) (by decide)]
  · obtain ⟨b1, b2, b3, b4⟩ := B4_Fr (W := V) (B := ML) h.1.2.2.1 hIc.2.2.1.2.1 hIc.2.2.1.2.2.2.1 hIc.2.2.1.1 (fun c z1 z2 _ _ _ => o c (by omega) (by omega) (by omega)) (fun c z1 z2 => o c (by omega) (by omega) (by omega)) (fun j hj => o24 j (by omega) (by omega) (by omega)) (fun _ _ => rfl) h3
    exact ⟨b1, b2, b3, b4, hk⟩
  · rw [if_neg h4]; exact h2.symm
  · rw [o0, o24 12 (by decide) (by decide) (by decide)]; exact h.2.2.1.2.2
  · exact shI_cg ⟨by rw [o 1 (by decide) (by decide) (by decide)], fun c hc => o c (by omega) (by omega) (by omega), rfl, rfl⟩ (fun c z1 z2 => ⟨o c (by omega) (by omega) (by omega), rfl⟩) h.2.2.2.1
  · exact rCc_cg (o _ (by decide) (by decide) (by decide)) (o _ (by decide) (by decide) (by decide)) (o _ (by decide) (by decide) (by decide)) rfl rfl (rCc_U (fun c z1 z2 => o c (by omega) (by omega) (by omega)) h.2.2.2.2.1)
  · exact Ig_cg (Inv_A h) (fun i hi => o _ (by omega) (by omega) (by omega)) (o _ (by decide) (by decide) (by decide)) (o _ (by decide) (by decide) (by decide)) (o _ (by decide) (by decide) (by decide)) (o _ (by decide) (by decide) (by decide)) h.2.2.2.2.2
theorem nI_n1 {i : Nat} (hi : i < 100) : ¬ nI i = -1 := fun q => by
  have := nI_pos (n := i) (by omega)
  rw [q] at this
  exact this (by decide)
theorem nI_m2 {i : Nat} (hi : i < 100) : ¬ nI i = -2 := fun q => by
  have := nI_pos (n := i) (by omega)
  rw [q] at this
  exact this (by decide)
theorem kw1 : ∀ c, c < 16 → ∀ k, k < 4 → ((nI c &&& ((1 : Int32) <<< (nI k &&& 31)) = 0) ↔ ¬ bitR (nI c) (nI k) = true) ∧ ∃ d, d < 16 ∧ nI c ||| ((1 : Int32) <<< (nI k &&& 31)) = nI d := by
  have e : ∀ c, c < 16 → ∀ k, k < 4 → ((nI c &&& ((1 : Int32) <<< (nI k &&& 31)) = 0) ↔ ¬ bitR (nI c) (nI k) = true) ∧ nI c ||| ((1 : Int32) <<< (nI k &&& 31)) = nI (c ||| 1 <<< k) ∧ c ||| 1 <<< k < 16 := by decide +kernel
  exact fun c hc k hk => ⟨(e c hc k hk).1, _, (e c hc k hk).2.2, (e c hc k hk).2.1⟩
theorem two_push (h : Inv MI ML MR r S A Gn b K u bi bo w) : Two X yX10_push cX10_push 3 (some .int) [.ref 0, .int x] yX11_push cX11_push 4 (some .int) [.ref 124, .int x] MI ML MR := by
  obtain ⟨hT, hIt, hIc, h3⟩ := id h.2.1
  obtain ⟨-, ⟨m1, m2⟩, -, -, k1, k2, ⟨k3, k4⟩, k5, ch, hch, ech⟩ := id h3
  have hA : A ≤ 8 := hIc.2.2.1.2.1
  have hAr := hIc.2.2.2.2.1
  have e20 : MI 124 20 = MI 1 0 := hIc.2.1
  have hB4 : inB x 0 3 = inR x 4 := inB_R (N := 3) (by decide)
  have c10 := c_X10_push (X := X) (n := 0) (ML := ML) (x := x) h.1.1 hA hAr.1
  have no : ∀ t : Int32, ¬ t = 4 → puR MI A x = (-1, t, MI) → rpR (th (ansM MI t)) A x = (-1, t, th (ansM MI t)) → Two X yX10_push cX10_push 3 (some .int) [.ref 0, .int x] yX11_push cX11_push 4 (some .int) [.ref 124, .int x] MI ML MR := fun t ht e1 e2 => by
    rw [e1] at c10
    have c11 := c_X11_push (X := X) (n := 0) (MI := ansM MI t) (ML := ML) (x := x) h.1.1 hA hAr.2
    rw [e2] at c11
    exact two_an h (by decide) (by decide) c10 c11 rfl ht
  by_cases z : machTr MI = 0
  · have n1 : ¬ MI 1 0 = 0 := fun q => by
      unfold machTr at z
      rw [if_pos q] at z
      exact absurd z (by decide)
    have n2 : MI 43 6 = 0 := Classical.byContradiction fun q => by
      unfold machTr at z
      rw [if_neg n1, if_neg q] at z
      exact absurd z (by decide)
    have tl := Bs_told h.2.1 n1
    have e6 : MI 43 6 = MI 124 27 := congrArg Prod.fst (Bs_g h.2.1 tl).2.2.2
    have r1 : ∀ t, ¬ th (ansM MI t) 124 20 = 0 := fun t => by
      show ¬ MI 124 20 = 0
      rw [e20]; exact n1
    have r2 : ∀ t, ¬ 0 < th (ansM MI t) 124 27 := fun t => by
      show ¬ 0 < MI 124 27
      rw [← e6, n2]; decide
    by_cases zx : inR x 4 = true
    · obtain ⟨k, hk, rfl⟩ := inR_ex (N := 4) (by decide) (inR_t.mp zx).1 (inR_t.mp zx).2
      obtain ⟨w1, d, hd, w2⟩ := kw1 ch hch k hk
      have rI : ∀ t, rpI (th (ansM MI t)) A (nI k) = if bitR (nI ch) (nI k) = true then -1 else arB (arR MI) (nI w) (nI d) A 0 (-1) := fun t => by
        unfold rpI
        show (if bitR (MI 124 47) (nI k) = true then -1 else arB (arR MI) (MI 124 46) (MI 124 47 ||| ((1 : Int32) <<< (nI k &&& 31))) A 0 (-1)) = _
        rw [← k5, ech, k4, w2]
      have pe := push_eq (P := arP MI) (Q := arR MI) (A := A) (w := nI w) (set := nI d) (vR_PE m2)
      by_cases zb : bitR (nI ch) (nI k) = true
      · refine no 5 (by decide) ?_ ?_
        · unfold puR wkR
          rw [if_pos z, if_pos zx, ech, if_neg (fun q => (w1.mp q) zb)]
          rw [if_neg (show ¬ ((false, MI 85 1, nI ch) : Bool × Int32 × Int32).1 = true from Bool.false_ne_true)]
          have : wkM MI (false, MI 85 1, nI ch) = MI := by
            rw [← ech]
            exact wkM_id _ _
          rw [this]
        · unfold rpR
          rw [if_neg (r1 5), if_neg (r2 5), hB4, if_pos zx, rI 5, if_pos zb, if_pos rfl]
      · have zb' : nI ch &&& ((1 : Int32) <<< (nI k &&& 31)) = 0 := w1.mpr zb
        rw [pe] at rI
        have wR : wkR (arP MI) A (MI 85 1) (MI 85 2) (1 <<< (nI k &&& 31)) = match wkF (arP MI) (nI w) (nI d) A with
            | some i => (true, arP MI i 1, 0)
            | none => if wkP (arP MI) (nI w) (nI d) A then (true, nI w, nI d) else (false, nI w, nI ch) := by
          unfold wkR
          rw [ech, if_pos zb', w2, k3]
          cases wkF (arP MI) (nI w) (nI d) A <;> rfl
        cases hF : wkF (arP MI) (nI w) (nI d) A with
        | some i =>
          rw [hF] at wR rI
          have hi : i < A := List.mem_range.mp (List.mem_of_find?_eq_some hF)
          obtain ⟨f0, g0, -, -, -, -, hf0, hg0, -, -, -, -, p0, p1, -⟩ := m1.2.2.2.1 i hi
          have hS := hIc.2.2.1.1
          have eP : puR MI A (nI k) = (nI g0, 0, wkM MI (true, nI g0, 0)) := by
            unfold puR
            have wR2 : wkR (arP MI) A (MI 85 1) (MI 85 2) (1 <<< (nI k &&& 31)) = (true, nI g0, 0) := by
              rw [wR]
              show (true, arP MI i 1, (0 : Int32)) = _
              rw [p1]
            rw [if_pos z, if_pos zx, wR2]
            rfl
          rw [eP] at c10
          refine ⟨_, _, ?_, c10, fun r0 W B C hz => ?_⟩
          · decide
          obtain ⟨rfl, rfl, rfl, rfl⟩ := hz
          obtain ⟨U, hU⟩ : ∃ U, U = ansM (wkM MI (true, nI g0, 0)) 0 := ⟨_, rfl⟩
          have o : ∀ q, q ≠ 0 → q ≠ 85 → U q = MI q := fun q z1 z2 => by
            rw [hU]
            unfold ansM wkM
            rw [u2_row _ _ z1, u2_row _ _ z2, u2_row _ _ z2]
          have c11 := c_X11_push (X := X) (n := 0) (MI := U) (ML := B) (x := nI k) h.1.1 hA (by rw [o 128 (by decide) (by decide)]; exact hAr.2)
          have eI : rpI (th U) A (nI k) = nI i := by
            have := rI 0
            rw [if_neg zb] at this
            have this' : rpI (th (ansM MI 0)) A (nI k) = nI i := this
            rw [← this']
            unfold rpI
            show (if bitR (U 124 47) (nI k) = true then -1 else arB (arR U) (U 124 46) (U 124 47 ||| ((1 : Int32) <<< (nI k &&& 31))) A 0 (-1)) = (if bitR (MI 124 47) (nI k) = true then -1 else arB (arR MI) (MI 124 46) (MI 124 47 ||| ((1 : Int32) <<< (nI k &&& 31))) A 0 (-1))
            have eA : arR U = arR MI := by
              funext i j
              show U 128 _ = MI 128 _
              rw [o 128 (by decide) (by decide)]
            rw [eA, o 124 (by decide) (by decide)]
          have ne1 : ¬ nI i = -1 := nI_n1 (by omega)
          have ne2 : ¬ nI i = -2 := nI_m2 (by omega)
          have eg : arR (th U) i 1 = nI g0 := by
            show U 128 _ = _
            rw [o 128 (by decide) (by decide), ← p1]
            exact (vR_PE m2 i hi 1 (by decide)).symm
          have eM : rpM (th U) A (nI k) = u2 (u2 (th U) 124 47 0) 124 46 (nI g0) := by
            unfold rpM
            rw [eI, if_neg ne2, nI_clamp (by omega), eg]
          have eR : rpR (th U) A (nI k) = (nI g0, 0, u2 (u2 (th U) 124 47 0) 124 46 (nI g0)) := by
            unfold rpR
            have r1' : ¬ th U 124 20 = 0 := by
              show ¬ U 124 20 = 0
              rw [o 124 (by decide) (by decide)]; exact r1 0
            have r2' : ¬ 0 < th U 124 27 := by
              show ¬ 0 < U 124 27
              rw [o 124 (by decide) (by decide)]; exact r2 0
            rw [if_neg r1', if_neg r2', hB4, if_pos zx, eI, if_neg ne1, eM, u2_eq]
          rw [eR] at c11
          rw [← hU]
          refine ⟨_, _, _, rfl, ?_, c11, fun r2 W2 B2 C2 hy => ?_⟩
          · decide
          obtain ⟨rfl, rfl, rfl, rfl⟩ := hy
          refine ⟨rfl, r, S, A, Gn, b, K, u, bi, bo, g0, ?_⟩
          have hrow : ∀ q, q ≠ 124 → rfM (u2 (u2 (th U) 124 47 0) 124 46 (nI g0)) 0 q = U q := fun q z1 => by
            rw [rf_rows z1, u2_row _ _ z1, u2_row _ _ z1, th_b z1]
          have hcol : ∀ j, 3 ≤ j → j ≠ 46 → j ≠ 47 → rfM (u2 (u2 (th U) 124 47 0) 124 46 (nI g0)) 0 124 j = MI 124 j := fun j z1 z2 z3 => by
            unfold rfM
            rw [u2_ne _ _ (by omega), u2_ne _ _ (by omega), u2_ne _ _ (by omega), u2_ne _ _ (by omega)]
            show u2 U 124 0 0 124 j = _
            rw [u2_ne _ _ (by omega), o 124 (by decide) (by decide)]
          have h85 : U 85 1 = nI g0 ∧ U 85 2 = 0 := by
            rw [hU]
            unfold ansM wkM
            refine ⟨?_, ?_⟩
            · rw [u2_ne _ _ (by omega), u2_ne _ _ (by omega)]; exact u2_eq _ _ _ _
            · rw [u2_ne _ _ (by omega)]; exact u2_eq _ _ _ _
          have h08 : U 0 8 = 0 ∧ U 0 9 = MI 0 9 := by
            rw [hU]
            unfold ansM wkM
            refine ⟨u2_eq _ _ _ _, ?_⟩
            rw [u2_ne _ _ (by omega), u2_ne _ _ (by omega), u2_ne _ _ (by omega)]
          show Inv (rfM (u2 (u2 (th U) 124 47 0) 124 46 (nI g0)) 0) _ _ r S A Gn b K u bi bo g0
          refine inv_walk h (fun q z1 z2 z3 => (hrow q z3).trans (o q z1 z2)) (by rw [hrow 0 (by decide)]; exact h08.2) hcol ⟨by omega, fun _ => hg0, ⟨?_, ?_⟩, ?_, 0, by decide, ?_⟩ ?_ ?_ rf_2
          · rw [hrow 85 (by decide)]; exact h85.1
          · unfold rfM
            rw [u2_ne _ _ (by omega), u2_ne _ _ (by omega)]; exact u2_eq _ _ _ _
          · rw [hrow 85 (by decide), h85.2]
            unfold rfM
            rw [u2_ne _ _ (by omega), u2_ne _ _ (by omega), u2_ne _ _ (by omega)]; exact (u2_eq _ _ _ _).symm
          · rw [hrow 85 (by decide), h85.2]; rfl
          · rw [hrow 0 (by decide), h08.1, rf_1]
          · rw [hrow 0 (by decide), h08.1]; decide
        | none =>
          rw [hF] at wR rI
          by_cases zp : wkP (arP MI) (nI w) (nI d) A = true
          · have wR' : wkR (arP MI) A (MI 85 1) (MI 85 2) (1 <<< (nI k &&& 31)) = (true, nI w, nI d) := by
              rw [wR]
              exact if_pos zp
            have eP : puR MI A (nI k) = (nI w, 0, wkM MI (true, nI w, nI d)) := by
              unfold puR
              rw [if_pos z, if_pos zx, wR']
              rfl
            rw [eP] at c10
            refine ⟨_, _, ?_, c10, fun r0 W B C hz => ?_⟩
            · decide
            obtain ⟨rfl, rfl, rfl, rfl⟩ := hz
            obtain ⟨U, hU⟩ : ∃ U, U = ansM (wkM MI (true, nI w, nI d)) 0 := ⟨_, rfl⟩
            have o : ∀ q, q ≠ 0 → q ≠ 85 → U q = MI q := fun q z1 z2 => by
              rw [hU]
              unfold ansM wkM
              rw [u2_row _ _ z1, u2_row _ _ z2, u2_row _ _ z2]
            have c11 := c_X11_push (X := X) (n := 0) (MI := U) (ML := B) (x := nI k) h.1.1 hA (by rw [o 128 (by decide) (by decide)]; exact hAr.2)
            have eI : rpI (th U) A (nI k) = -2 := by
              have := rI 0
              rw [if_neg zb] at this
              have this' : rpI (th (ansM MI 0)) A (nI k) = -2 := this.trans (if_pos zp)
              rw [← this']
              unfold rpI
              show (if bitR (U 124 47) (nI k) = true then -1 else arB (arR U) (U 124 46) (U 124 47 ||| ((1 : Int32) <<< (nI k &&& 31))) A 0 (-1)) = (if bitR (MI 124 47) (nI k) = true then -1 else arB (arR MI) (MI 124 46) (MI 124 47 ||| ((1 : Int32) <<< (nI k &&& 31))) A 0 (-1))
              have eA : arR U = arR MI := by
                funext i j
                show U 128 _ = MI 128 _
                rw [o 128 (by decide) (by decide)]
              rw [eA, o 124 (by decide) (by decide)]
            have e47 : th U 124 47 ||| ((1 : Int32) <<< (nI k &&& 31)) = nI d := by
              show U 124 47 ||| _ = _
              rw [o 124 (by decide) (by decide), ← k5, ech, w2]
            have eM : rpM (th U) A (nI k) = u2 (th U) 124 47 (nI d) := by
              unfold rpM
              rw [eI, if_pos rfl, e47]
            have e46 : u2 (th U) 124 47 (nI d) 124 46 = nI w := by
              rw [u2_ne _ _ (by omega)]
              show U 124 46 = _
              rw [o 124 (by decide) (by decide), k4]
            have eR : rpR (th U) A (nI k) = (nI w, 0, u2 (th U) 124 47 (nI d)) := by
              unfold rpR
              have r1' : ¬ th U 124 20 = 0 := by
                show ¬ U 124 20 = 0
                rw [o 124 (by decide) (by decide)]; exact r1 0
              have r2' : ¬ 0 < th U 124 27 := by
                show ¬ 0 < U 124 27
                rw [o 124 (by decide) (by decide)]; exact r2 0
              rw [if_neg r1', if_neg r2', hB4, if_pos zx, eI, if_neg (by decide), eM, e46]
            rw [eR] at c11
            rw [← hU]
            refine ⟨_, _, _, rfl, ?_, c11, fun r2 W2 B2 C2 hy => ?_⟩
            · decide
            obtain ⟨rfl, rfl, rfl, rfl⟩ := hy
            refine ⟨rfl, r, S, A, Gn, b, K, u, bi, bo, w, ?_⟩
            have hrow : ∀ q, q ≠ 124 → rfM (u2 (th U) 124 47 (nI d)) 0 q = U q := fun q z1 => by
              rw [rf_rows z1, u2_row _ _ z1, th_b z1]
            have hcol : ∀ j, 3 ≤ j → j ≠ 47 → rfM (u2 (th U) 124 47 (nI d)) 0 124 j = MI 124 j := fun j z1 z3 => by
              unfold rfM
              rw [u2_ne _ _ (by omega), u2_ne _ _ (by omega), u2_ne _ _ (by omega)]
              show u2 U 124 0 0 124 j = _
              rw [u2_ne _ _ (by omega), o 124 (by decide) (by decide)]
            have h85 : U 85 1 = nI w ∧ U 85 2 = nI d := by
              rw [hU]
              unfold ansM wkM
              refine ⟨?_, ?_⟩
              · rw [u2_ne _ _ (by omega), u2_ne _ _ (by omega)]; exact u2_eq _ _ _ _
              · rw [u2_ne _ _ (by omega)]; exact u2_eq _ _ _ _
            have h08 : U 0 8 = 0 ∧ U 0 9 = MI 0 9 := by
              rw [hU]
              unfold ansM wkM
              refine ⟨u2_eq _ _ _ _, ?_⟩
              rw [u2_ne _ _ (by omega), u2_ne _ _ (by omega), u2_ne _ _ (by omega)]
            show Inv (rfM (u2 (th U) 124 47 (nI d)) 0) _ _ r S A Gn b K u bi bo w
            refine inv_walk h (fun q z1 z2 z3 => (hrow q z3).trans (o q z1 z2)) (by rw [hrow 0 (by decide)]; exact h08.2) (fun j z1 z2 z3 => hcol j z1 z3) ⟨k1, fun _ => k2 tl, ⟨?_, ?_⟩, ?_, d, hd, ?_⟩ ?_ ?_ rf_2
            · rw [hrow 85 (by decide)]; exact h85.1
            · rw [hcol 46 (by decide) (by decide)]; exact k4
            · rw [hrow 85 (by decide), h85.2]
              unfold rfM
              rw [u2_ne _ _ (by omega), u2_ne _ _ (by omega)]; exact (u2_eq _ _ _ _).symm
            · rw [hrow 85 (by decide), h85.2]
            · rw [hrow 0 (by decide), h08.1, rf_1]
            · rw [hrow 0 (by decide), h08.1]; decide
          · have wR' : wkR (arP MI) A (MI 85 1) (MI 85 2) (1 <<< (nI k &&& 31)) = (false, nI w, nI ch) := by
              rw [wR]
              exact if_neg zp
            have rI' : ∀ t, rpI (th (ansM MI t)) A (nI k) = -1 := fun t => by
              have := rI t
              rw [if_neg zb] at this
              exact this.trans (if_neg zp)
            refine no 5 (by decide) ?_ ?_
            · unfold puR
              rw [if_pos z, if_pos zx, wR', if_neg (show ¬ ((false, nI w, nI ch) : Bool × Int32 × Int32).1 = true from Bool.false_ne_true)]
              have : wkM MI (false, nI w, nI ch) = MI := by
                rw [← ech, ← k3]
                exact wkM_id _ _
              rw [this]
            · unfold rpR
              rw [if_neg (r1 5), if_neg (r2 5), hB4, if_pos zx, rI' 5, if_pos rfl]
    · refine no 2 (by decide) ?_ ?_
      · unfold puR
        rw [if_pos z, if_neg zx]
      · unfold rpR
        rw [if_neg (r1 2), if_neg (r2 2), hB4, if_neg zx]
  · refine no (machTr MI) (by unfold machTr; (repeat' split) <;> first | exact (show ¬ (0 : Int32) = 4 by decide) | exact (show ¬ (1 : Int32) = 4 by decide) | exact (show ¬ (2 : Int32) = 4 by decide) | exact (show ¬ (3 : Int32) = 4 by decide) | exact (show ¬ (5 : Int32) = 4 by decide) | exact funTr_4 | exact fewTr_4) ?_ ?_
    · unfold puR
      rw [if_neg z]
    · unfold rpR
      have e20' : th (ansM MI (machTr MI)) 124 20 = MI 1 0 := e20
      rw [e20']
      by_cases n1 : MI 1 0 = 0
      · rw [if_pos n1]
        have : machTr MI = 1 := by unfold machTr; rw [if_pos n1]
        rw [this]
      · have tl := Bs_told h.2.1 n1
        have e6 : MI 43 6 = MI 124 27 := congrArg Prod.fst (Bs_g h.2.1 tl).2.2.2
        have n2 : ¬ MI 43 6 = 0 := fun q => z (by unfold machTr; rw [if_neg n1, if_pos q])
        have n4 : 0 < th (ansM MI (machTr MI)) 124 27 := by
          show 0 < MI 124 27
          rw [← e6]
          exact (Bs_p h.2.1 tl).resolve_left n2
        rw [if_neg n1, if_pos n4]
        have : machTr MI = 5 := by unfold machTr; rw [if_neg n1, if_neg n2]
        rw [this]
end fd

/-! calls that only ask -/
section bs
variable {MI : Mi} {ML : Nat → Nat → Int64} {r : Nat → Nat} {S A Gn b K u bi bo w : Nat}
theorem Bs_told (h : Bs MI ML r S A Gn b K u bi bo w) (h1 : ¬ MI 1 0 = 0) : MI 1 0 = 1 := h.2.2.1.1.resolve_left h1
theorem Bs_g (h : Bs MI ML r S A Gn b K u bi bo w) : MI 1 0 = 1 → tgE (tgC MI) (tgR MI) := fun z => (Bs_use h z).1
theorem Bs_p (h : Bs MI ML r S A Gn b K u bi bo w) : MI 1 0 = 1 → MI 43 6 = 0 ∨ 0 < MI 43 6 := fun z => by
  rcases (Bs_use h z).2.2.2 with q | q | q
  · unfold ev4 at q
    rcases q with q | q | q | q | q
    · exact Or.inl q
    all_goals (right; have q' : MI 43 6 = _ := q; rw [q']; decide)
  · right; rw [q]; decide
  · right; rw [q]; decide
theorem Bs_tr (h : Bs MI ML r S A Gn b K u bi bo w) : ∀ x, funTr MI x = rTr MI x := fun x => tr_eq h.2.2.1 (Bs_g h) (Bs_p h) x
theorem Bs_l (h : Bs MI ML r S A Gn b K u bi bo w) (h1 : ¬ MI 1 0 = 0) (h2 : MI 43 6 = 0) : lnk MI A S b ∧ Dg ML := (Bs_use h (Bs_told h h1)).2.1 h2
theorem Bs_b (h : Bs MI ML r S A Gn b K u bi bo w) : b < 6 := by
  have hS := h.2.2.1.2.2.1.1
  rcases h.2.2.1.1 with z | z
  · have := (h.2.2.1.2.2.2.2.2.2.2.2.2 z).2.2.2.1
    omega
  · have := (h.2.2.2.2.2.2.1 z).1
    omega
theorem Bs_m (h : Bs MI ML r S A Gn b K u bi bo w) : rMc MI A S b := by
  obtain ⟨-, -, hIc, -, ⟨m1, m2⟩, -⟩ := id h
  exact ⟨hIc.2.2.1.2.1, hIc.2.2.1.1, hIc.2.2.2.2.1.2, okA_PE (arcs_ok m1.2.2.2.1).1 (vR_PE m2), Bs_b h, hIc.2.2.2.2.2.2.1.2⟩
theorem Bs_q (h : Bs MI ML r S A Gn b K u bi bo w) : ∀ g, g < Gn → MI 12 g = MI 128 (56 + 2 * g) ∧ MI 13 g = nI (gcN MI g) ∧ gcN MI g < 729 := fun g hg => by
  obtain ⟨-, -, -, -, ⟨m1, m2⟩, -⟩ := h
  obtain ⟨f, c, hf, hc, e1, e2⟩ := m1.2.2.2.2 g hg
  obtain ⟨v1, v2⟩ := m2.2.2.2.2 g hg
  have e : gcN MI g = c := by
    show (MI 128 (57 + 2 * g)).toNatClampNeg = c
    rw [v2, e2, nI_clamp (by omega)]
  exact ⟨v1.symm, by rw [e]; exact e2, by rw [e]; exact hc⟩
theorem Bs_gOK (h : Bs MI ML r S A Gn b K u bi bo w) : gOK MI Gn := by
  have hq := Bs_q h
  obtain ⟨-, -, hIc, -, ⟨m1, m2⟩, -⟩ := h
  refine ⟨hIc.2.2.1.2.2.1, hIc.2.2.2.2.2.1.2, fun j hj => ⟨?_, (hq j hj).2.2⟩⟩
  rw [(m2.2.2.2.2 j hj).2]
  exact (hq j hj).2.1
theorem funTr_4 {MI : Mi} {x : Int32} : ¬ funTr MI x = 4 := by
  unfold funTr machTr
  (repeat' split) <;> first | exact (show ¬ (0 : Int32) = 4 by decide) | exact (show ¬ (1 : Int32) = 4 by decide) | exact (show ¬ (5 : Int32) = 4 by decide)
end bs
section asks
variable {X : xG} {MI : Mi} {ML : Nat → Nat → Int64} {MR : Nat → Nat → Option Nat} {r : Nat → Nat} {S A Gn b K u bi bo w : Nat} {x y : Int32}
theorem two_fault (h : Inv MI ML MR r S A Gn b K u bi bo w) : Two X yX10_fault cX10_fault 1 (some .int) [.ref 0] yX11_fault cX11_fault 1 (some .int) [.ref 124] MI ML MR :=
  two_no h (by decide) (by decide) c_X10_fault c_X11_fault h.2.2.1.2.2
theorem two_where (h : Inv MI ML MR r S A Gn b K u bi bo w) : Two X yX10_where cX10_where 1 (some .int) [.ref 0] yX11_where cX11_where 1 (some .int) [.ref 124] MI ML MR :=
  two_no h (by decide) (by decide) (c_X10_where h.1.1) c_X11_where h.2.2.1.2.1
theorem two_trouble (h : Inv MI ML MR r S A Gn b K u bi bo w) : Two X yX10_trouble cX10_trouble 1 (some .int) [.ref 0] yX11_trouble cX11_trouble 1 (some .int) [.ref 124] MI ML MR :=
  two_no h (by decide) (by decide) c_X10_trouble c_X11_trouble h.2.2.1.1
theorem two_size (h : Inv MI ML MR r S A Gn b K u bi bo w) : Two X yX10_size cX10_size 2 (some .int) [.ref 0, .int x] yX11_size cX11_size 2 (some .int) [.ref 124, .int x] MI ML MR :=
  two_no h (by decide) (by decide) (c_X10_size h.1.1) (c_X11_size h.1.1) (sz_eq h.2.1.2.2.1 x)
theorem two_bad (h : Inv MI ML MR r S A Gn b K u bi bo w) : Two X yX10_bad cX10_bad 1 (some .int) [.ref 0] yX11_bad cX11_bad 1 (some .int) [.ref 124] MI ML MR := by
  refine two_an h (by decide) (by decide) (c_X10_bad h.1.1) c_X11_bad ?_ ?_
  · have e := (bd_eq h.2.1.2.2.1 (Bs_g h.2.1)).1
    have e2 : MI 124 20 = MI 1 0 := h.2.1.2.2.1.2.1
    refine Prod.ext e ?_
    show (if MI 1 0 = 0 then (1 : Int32) else 0) = if MI 124 20 = 0 then 1 else 0
    rw [e2]
  · (repeat' split) <;> first | exact (show ¬ (0 : Int32) = 4 by decide) | exact (show ¬ (1 : Int32) = 4 by decide) | exact (show ¬ (2 : Int32) = 4 by decide) | exact (show ¬ (3 : Int32) = 4 by decide) | exact (show ¬ (5 : Int32) = 4 by decide) | exact funTr_4 | exact fewTr_4
theorem two_badAt (h : Inv MI ML MR r S A Gn b K u bi bo w) : Two X yX10_badAt cX10_badAt 1 (some .int) [.ref 0] yX11_badAt cX11_badAt 1 (some .int) [.ref 124] MI ML MR := by
  refine two_an h (by decide) (by decide) (c_X10_badAt h.1.1) c_X11_badAt ?_ ?_
  · have e := (bd_eq h.2.1.2.2.1 (Bs_g h.2.1)).2
    have e2 : MI 124 20 = MI 1 0 := h.2.1.2.2.1.2.1
    refine Prod.ext e ?_
    show (if MI 1 0 = 0 then (1 : Int32) else 0) = if MI 124 20 = 0 then 1 else 0
    rw [e2]
  · (repeat' split) <;> first | exact (show ¬ (0 : Int32) = 4 by decide) | exact (show ¬ (1 : Int32) = 4 by decide) | exact (show ¬ (2 : Int32) = 4 by decide) | exact (show ¬ (3 : Int32) = 4 by decide) | exact (show ¬ (5 : Int32) = 4 by decide) | exact funTr_4 | exact fewTr_4
theorem two_state (h : Inv MI ML MR r S A Gn b K u bi bo w) : Two X yX10_state cX10_state 3 (some .int) [.ref 0, .int x, .int y] yX11_state cX11_state 3 (some .int) [.ref 124, .int x, .int y] MI ML MR := by
  obtain ⟨-, -, hIc, -, ⟨m1, m2⟩, -⟩ := id h.2.1
  refine two_an h (by decide) (by decide) (c_X10_state h.1.1) (c_X11_state (MI := ansM MI (stAns MI x y).2) h.1.1 hIc.2.2.1.1 hIc.2.2.2.1.2) ?_ ?_
  · have e := st_eq hIc (fun s hs => (m2.2.2.1 s hs).symm) (Bs_g h.2.1) x y
    exact e
  · unfold stAns
    (repeat' split) <;> first | exact (show ¬ (0 : Int32) = 4 by decide) | exact (show ¬ (1 : Int32) = 4 by decide) | exact (show ¬ (2 : Int32) = 4 by decide) | exact (show ¬ (3 : Int32) = 4 by decide) | exact (show ¬ (5 : Int32) = 4 by decide) | exact funTr_4 | exact fewTr_4
theorem two_arc (h : Inv MI ML MR r S A Gn b K u bi bo w) : Two X yX10_arc cX10_arc 3 (some .int) [.ref 0, .int x, .int y] yX11_arc cX11_arc 3 (some .int) [.ref 124, .int x, .int y] MI ML MR := by
  obtain ⟨-, -, hIc, -, ⟨m1, m2⟩, -⟩ := id h.2.1
  refine two_an h (by decide) (by decide) (c_X10_arc h.1.1) (c_X11_arc (MI := ansM MI (arAns MI x y).2) h.1.1 hIc.2.2.1.2.1 hIc.2.2.2.2.1.2) ?_ ?_
  · have e := ar_eq hIc (vR_PE m2) (Bs_g h.2.1) x y
    exact e
  · unfold arAns
    (repeat' split) <;> first | exact (show ¬ (0 : Int32) = 4 by decide) | exact (show ¬ (1 : Int32) = 4 by decide) | exact (show ¬ (2 : Int32) = 4 by decide) | exact (show ¬ (3 : Int32) = 4 by decide) | exact (show ¬ (5 : Int32) = 4 by decide) | exact funTr_4 | exact fewTr_4
theorem two_gate (h : Inv MI ML MR r S A Gn b K u bi bo w) : Two X yX10_gate cX10_gate 3 (some .int) [.ref 0, .int x, .int y] yX11_gate cX11_gate 3 (some .int) [.ref 124, .int x, .int y] MI ML MR := by
  obtain ⟨-, -, hIc, -, ⟨m1, m2⟩, -⟩ := id h.2.1
  refine two_an h (by decide) (by decide) (c_X10_gate h.1.1) (c_X11_gate (MI := ansM MI (gtAns MI x y).2) h.1.1 hIc.2.2.1.2.2.1 hIc.2.2.2.2.2.1.2) ?_ ?_
  · have e := gt_eq hIc m2.2.2.2.2 x y
    exact e
  · unfold gtAns
    (repeat' split) <;> first | exact (show ¬ (0 : Int32) = 4 by decide) | exact (show ¬ (1 : Int32) = 4 by decide) | exact (show ¬ (2 : Int32) = 4 by decide) | exact (show ¬ (3 : Int32) = 4 by decide) | exact (show ¬ (5 : Int32) = 4 by decide) | exact funTr_4 | exact fewTr_4
theorem two_at (h : Inv MI ML MR r S A Gn b K u bi bo w) : Two X yX10_at cX10_at 4 (some .int) [.ref 0, .int x, .int y] yX11_at cX11_at 4 (some .int) [.ref 124, .int x, .int y] MI ML MR := by
  refine two_an h (by decide) (by decide) (c_X10_at h.1.1) (c_X11_at h.1.1) ?_ ?_
  · have e := at_eq (Bs_tr h.2.1) (fun z1 z2 => (Bs_l h.2.1 z1 z2).2) x y
    exact e
  · unfold atAns
    (repeat' split) <;> first | exact (show ¬ (0 : Int32) = 4 by decide) | exact (show ¬ (1 : Int32) = 4 by decide) | exact (show ¬ (2 : Int32) = 4 by decide) | exact (show ¬ (3 : Int32) = 4 by decide) | exact (show ¬ (5 : Int32) = 4 by decide) | exact funTr_4 | exact fewTr_4
theorem two_points (h : Inv MI ML MR r S A Gn b K u bi bo w) : Two X yX10_points cX10_points 6 (some .int) [.ref 0, .int x, .int y] yX11_points cX11_points 4 (some .int) [.ref 124, .int x, .int y] MI ML MR := by
  refine two_an h (by decide) (by decide) (c_X10_points h.1.1) (c_X11_points h.1.1) ?_ ?_
  · have e := po_eq (Bs_tr h.2.1) (fun z1 z2 => (Bs_l h.2.1 z1 z2).2) x y
    exact e
  · unfold poAns
    (repeat' split) <;> first | exact (show ¬ (0 : Int32) = 4 by decide) | exact (show ¬ (1 : Int32) = 4 by decide) | exact (show ¬ (2 : Int32) = 4 by decide) | exact (show ¬ (3 : Int32) = 4 by decide) | exact (show ¬ (5 : Int32) = 4 by decide) | exact funTr_4 | exact fewTr_4
theorem two_walk (h : Inv MI ML MR r S A Gn b K u bi bo w) : Two X yX10_walk cX10_walk 2 (some .int) [.ref 0, .int x] yX11_walk cX11_walk 2 (some .int) [.ref 124, .int x] MI ML MR := by
  obtain ⟨-, -, hIc, -, -, -, -, k1, k2, ⟨k3, k4⟩, k5, -⟩ := id h.2.1
  refine two_an h (by decide) (by decide) (c_X10_walk h.1.1) (c_X11_walk (MI := ansM MI (wkAns MI x).2) h.1.1 k1 k4) ?_ ?_
  · have e := wk_eq hIc (Bs_g h.2.1) k1 k3 k4 k5 (fun z1 z2 => ((Bs_use h.2.1 z1).2.2.1 (Or.inl z2)).1 w (k2 z1)) (Bs_p h.2.1) x
    exact e
  · unfold wkAns
    (repeat' split) <;> first | exact (show ¬ (0 : Int32) = 4 by decide) | exact (show ¬ (1 : Int32) = 4 by decide) | exact (show ¬ (2 : Int32) = 4 by decide) | exact (show ¬ (3 : Int32) = 4 by decide) | exact (show ¬ (5 : Int32) = 4 by decide) | exact funTr_4 | exact fewTr_4
theorem rgS_cg {V W : Mi} (e : V 128 = W 128) {x : Int32} {d : Nat} : ∀ g, rgS V x d g = rgS W x d g := by
  intro g
  induction g with
  | zero => rfl
  | succ g ih => rw [rgS, rgS, ih]; unfold gcN; rw [e]
theorem two_run1 (h : Inv MI ML MR r S A Gn b K u bi bo w) : Two X yX10_run cX10_run 5 (some .int) [.ref 0, .int x, .int y, .int 1] yX11_run cX11_run 5 (some .int) [.ref 124, .int x, .int y, .int 1] MI ML MR := by
  obtain ⟨⟨t1, t2, hmu⟩, -, hIc, -⟩ := id h.2.1
  have hg := Bs_gOK h.2.1
  refine two_an h (by decide) (by decide) (c_X10_run_1 h.1.1 hIc.2.2.1.2.2.1 hIc.2.2.2.2.2.1.1) (c_X11_run_1 (MI := ansM MI (r1Ans MI ML Gn x y).2) h.1.1 hmu hg (by decide)) ?_ ?_
  · have e := r1_eq (Bs_tr h.2.1) t1 (Bs_q h.2.1) x y
    refine Eq.trans e ?_
    unfold rrG
    rw [rgS_cg (V := th (ansM MI (r1Ans MI ML Gn x y).2)) (W := MI) rfl]
    rfl
  · unfold r1Ans
    (repeat' split) <;> first | exact (show ¬ (0 : Int32) = 4 by decide) | exact (show ¬ (1 : Int32) = 4 by decide) | exact (show ¬ (2 : Int32) = 4 by decide) | exact (show ¬ (3 : Int32) = 4 by decide) | exact (show ¬ (5 : Int32) = 4 by decide) | exact funTr_4 | exact fewTr_4
theorem two_runBurst1 (h : Inv MI ML MR r S A Gn b K u bi bo w) : Two X yX10_runBurst cX10_runBurst 5 (some .int) [.ref 0, .int x, .int y, .int 1] yX11_runBurst cX11_runBurst 5 (some .int) [.ref 124, .int x, .int y, .int 1] MI ML MR := by
  obtain ⟨⟨t1, t2, hmu⟩, -, hIc, -⟩ := id h.2.1
  have hg := Bs_gOK h.2.1
  have hm := Bs_m h.2.1
  refine two_an h (by decide) (by decide) (c_X10_runBurst_1 h.1.1 hIc.2.2.1.2.1 hIc.2.2.2.2.1.1 hIc.2.2.1.2.2.1 hIc.2.2.2.2.2.1.1) (c_X11_runBurst_1 (MI := ansM MI (b1Ans MI ML Gn x y).2) h.1.1 hmu hm hg (by decide)) ?_ ?_
  · have e := b1_eq hIc (Bs_tr h.2.1) t1 (Bs_q h.2.1) (fun z1 z2 i hi => by
      obtain ⟨m, hm, e⟩ := numC_in (pointV (MI 135) (MI 128) (arR MI i 0)) (arR MI i 2 ||| arR MI i 3)
      exact ⟨m, hm, (lnk_dsc (Bs_l h.2.1 z1 z2).1 hi).1.trans e, e⟩) x y
    refine Eq.trans e ?_
    unfold rbG
    rw [rgS_cg (V := th (ansM MI (b1Ans MI ML Gn x y).2)) (W := MI) rfl]
    rfl
  · unfold b1Ans
    (repeat' split) <;> first | exact (show ¬ (0 : Int32) = 4 by decide) | exact (show ¬ (1 : Int32) = 4 by decide) | exact (show ¬ (2 : Int32) = 4 by decide) | exact (show ¬ (3 : Int32) = 4 by decide) | exact (show ¬ (5 : Int32) = 4 by decide) | exact funTr_4 | exact fewTr_4
theorem Bs_hm (h : Bs MI ML r S A Gn b K u bi bo w) (z1 : ¬ MI 1 0 = 0) (z2 : MI 43 6 = 0) : ∀ f, f < 5 → ∀ i, i < A → hmV MI ML Gn f i = hmR MI ML f Gn i := fun f hf i hi =>
  harm_eq (Bs_l h z1 z2).1 hf hi h.1.1 h.1.2.1 ((Bs_l h z1 z2).2 f hf).1 (Bs_q h)
end asks

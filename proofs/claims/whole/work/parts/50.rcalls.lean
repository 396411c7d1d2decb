/-! the reference's calls that need no sheets -/
def th (MI : Nat → Nat → Int32) : Nat → Nat → Int32 := u2 MI 124 0 0
theorem inB_ex {x : Int32} {N : Nat} (hN : N + 1 < 2 ^ 31) (h : inB x 0 (nI N) = true) : ∃ f, f < N + 1 ∧ x = nI f := by
  have h2 := of_decide_eq_true h
  obtain ⟨j, hj, e⟩ := nI_of2 (x := x) (M := nI N) (n := N) (nI_toInt (by omega)) h2.1 (Int32.not_lt.mp h2.2)
  exact ⟨j, by omega, e⟩
theorem b2n {b : Bool} : ¬ b2 b = 0 ↔ b = true := by cases b <;> simp [b2]
def rIS (V : Mi) (x : Int32) : Bool := decide (¬ V 124 20 = 0) && inR x (V 130 0)
def rIA (V : Mi) (x : Int32) : Bool := decide (¬ V 124 20 = 0) && inR x (V 128 6)
def rIF (V : Mi) (x : Int32) : Bool := decide (¬ V 124 20 = 0) && inB x 0 4
def rTr (V : Mi) (x : Int32) : Int32 := if rIF V x = true then (if 0 < V 124 27 then 5 else 0) else 1
theorem and_t {a b : Bool} : (a && b) = true ↔ a = true ∧ b = true := by cases a <;> cases b <;> simp
def rsAns (V : Mi) (x y : Int32) : Int32 × Int32 := if rIS V x = true ∧ inB y 0 2 = true then (if y = 0 then (V 128 x.toNatClampNeg, 0) else if V 133 x.toNatClampNeg = 0 then (-2, 0) else ((if y = 1 then V 135 x.toNatClampNeg else V 136 x.toNatClampNeg), 0)) else (-1, 1)
def raAns (V : Mi) (x y : Int32) : Int32 × Int32 := if rIA V x = true ∧ inB y 0 6 = true then ((if y < 6 then V 128 (7 + 6 * x.toNatClampNeg + y.toNatClampNeg) else if V 134 x.toNatClampNeg = 0 then 0 else 1), 0) else (-1, 1)
def rgAns (V : Mi) (x y : Int32) : Int32 × Int32 := if (¬ V 124 20 = 0 ∧ inR x (V 128 55) = true) ∧ inB y 0 1 = true then (V 128 (56 + 2 * x.toNatClampNeg + y.toNatClampNeg), 0) else (-1, 1)
def rtAns (V : Mi) (B : Nat → Nat → Int64) (x y : Int32) : Int32 × Int32 := if rTr V x = 0 then (if inB y 0 63 = true then ((if hasL (B 137 x.toNatClampNeg) y = true then 1 else if hasL (B 138 x.toNatClampNeg) y = true then 0 else 2), 0) else (-1, 2)) else (-1, rTr V x)
def mnV (p : Int64) : Nat → Int32
  | 0 => 0
  | k + 1 => mnV p k + b2 (hasL p (nI k))
def rpAns (V : Mi) (B : Nat → Nat → Int64) (x y : Int32) : Int32 × Int32 := if rTr V x = 0 then (if inB y 0 2 = true then ((if y = 1 then mnV (B 137 x.toNatClampNeg) 64 else if y = 0 then mnV (B 138 x.toNatClampNeg) 64 else 64 - mnV (B 137 x.toNatClampNeg ||| B 138 x.toNatClampNeg) 64), 0) else (-1, 2)) else (-1, rTr V x)
def rwAns (V : Mi) (x : Int32) : Int32 × Int32 := if V 124 20 = 0 ∨ ¬ inB x 0 3 = true then (-1, 1) else if 0 < V 124 27 then (-1, 5) else ((if x = 0 then V 124 46 else if x = 1 then V 135 (V 124 46).toNatClampNeg ^^^ V 124 47 else if x = 2 then V 136 (V 124 46).toNatClampNeg else V 124 47), 0)
def rzAns (V : Mi) (x : Int32) : Int32 := if x = 4 then V 124 6 else if inB x 0 5 = true then (if V 124 20 = 0 then 0 else if x = 0 then V 130 0 else if x = 1 then V 128 6 else if x = 2 then V 128 55 else if x = 3 then V 124 19 else V 130 1) else -1
theorem rTr_0 {V : Mi} {x : Int32} : rTr V x = 0 ∨ 0 < rTr V x := by
  unfold rTr
  split
  · split
    · exact Or.inr (by decide)
    · exact Or.inl rfl
  · exact Or.inr (by decide)
theorem rTr_f {V : Mi} {x : Int32} (h : rTr V x = 0) : ∃ f, f < 5 ∧ x = nI f := by
  unfold rTr at h
  split at h
  · rename_i z
    exact inB_ex (N := 4) (by decide) (and_t.mp z).2
  · exact absurd h (by decide)
section rcalls
variable {X : xG} {n : Nat} {MI : Nat → Nat → Int32} {ML : Nat → Nat → Int64} {MR : Nat → Nat → Option Nat}
set_option maxRecDepth 100000 in
theorem c_X11_fault : Cf X yX11_fault cX11_fault 1 (some .int) 1 [.ref 124] n SH MI ML MR (some (.int (th MI 124 12))) (th MI) ML MR := by
  refine Ct_of (by decide) (Nat.le_of_ble_eq_true rfl) (fun G hG => ?_)
  refine r_aload_n 0 rfl dX11_fault_0 ?_
  refine r_iconst (v := 0) rfl dX11_fault_1 ?_
  refine r_puti dX11_fault_2 fl_X11_3 rfl rfl rfl ?_
  refine r_aload_n 0 rfl dX11_fault_5 ?_
  refine r_geti dX11_fault_6 fl_X11_122 rfl ?_
  exact r_iret hG dX11_fault_9 (⟨rfl, rfl, rfl, rfl⟩)
set_option maxRecDepth 100000 in
theorem c_X11_where : Cf X yX11_where cX11_where 1 (some .int) 1 [.ref 124] n SH MI ML MR (some (.int (th MI 124 2))) (th MI) ML MR := by
  refine Ct_of (by decide) (Nat.le_of_ble_eq_true rfl) (fun G hG => ?_)
  refine r_aload_n 0 rfl dX11_where_0 ?_
  refine r_iconst (v := 0) rfl dX11_where_1 ?_
  refine r_puti dX11_where_2 fl_X11_3 rfl rfl rfl ?_
  refine r_aload_n 0 rfl dX11_where_5 ?_
  refine r_geti dX11_where_6 fl_X11_10 rfl ?_
  exact r_iret hG dX11_where_9 (⟨rfl, rfl, rfl, rfl⟩)
set_option maxRecDepth 100000 in
theorem c_X11_trouble : Cf X yX11_trouble cX11_trouble 1 (some .int) 1 [.ref 124] n SH MI ML MR (some (.int (th MI 124 1))) (th MI) ML MR := by
  refine Ct_of (by decide) (Nat.le_of_ble_eq_true rfl) (fun G hG => ?_)
  refine r_aload_n 0 rfl dX11_trouble_0 ?_
  refine r_iconst (v := 0) rfl dX11_trouble_1 ?_
  refine r_puti dX11_trouble_2 fl_X11_3 rfl rfl rfl ?_
  refine r_aload_n 0 rfl dX11_trouble_5 ?_
  refine r_geti dX11_trouble_6 fl_X11_7 rfl ?_
  exact r_iret hG dX11_trouble_9 (⟨rfl, rfl, rfl, rfl⟩)
set_option maxRecDepth 100000 in
theorem c_X11_isState (hM : x_Lay MR) {x : Int32} : Cf X yX11_isState cX11_isState 2 (some .boolean) 1 [.ref 124, .int x] n SH MI ML MR (some (.int (b2 (rIS MI x)))) MI ML MR := by
  refine Ct_of (by decide) (Nat.le_of_ble_eq_true rfl) (fun G hG => ?_)
  refine r_aload_n 0 rfl dX11_isState_0 ?_
  refine r_geti dX11_isState_1 fl_X11_257 rfl ?_
  refine r_ifeq (tgt := 25) dX11_isState_4 (by decide) (fun zh4 => ?_) (fun zh4 => ?_)
  · refine r_iconst (v := 0) rfl dX11_isState_25 ?_
    exact r_zret hG dX11_isState_26 (rfl) (⟨by have c0 : (0 : Int32).toNatClampNeg = 0 := rfl; simp_all [rIS, inR, b2], rfl, rfl, rfl⟩)
  · refine r_iload_n 1 rfl dX11_isState_7 ?_
    refine r_iflt (tgt := 25) dX11_isState_8 (by decide) (fun zh8 => ?_) (fun zh8 => ?_)
    · refine r_iconst (v := 0) rfl dX11_isState_25 ?_
      exact r_zret hG dX11_isState_26 (rfl) (⟨by have c0 : (0 : Int32).toNatClampNeg = 0 := rfl; simp_all [rIS, inR, b2], rfl, rfl, rfl⟩)
    · refine r_iload_n 1 rfl dX11_isState_11 ?_
      refine r_aload_n 0 rfl dX11_isState_12 ?_
      refine r_getr dX11_isState_13 fl_X11_37 rfl (hM _ _ _ rfl) ?_
      refine r_iconst (v := 0) rfl dX11_isState_16 ?_
      refine r_iald dX11_isState_17 rfl (vpk (k := 0) (by decide) (by decide) rfl) ?_
      refine r_icmpge (tgt := 25) dX11_isState_18 (by decide) (fun zh18 => ?_) (fun zh18 => ?_)
      · refine r_iconst (v := 0) rfl dX11_isState_25 ?_
        exact r_zret hG dX11_isState_26 (rfl) (⟨by have c0 : (0 : Int32).toNatClampNeg = 0 := rfl; simp_all [rIS, inR, b2], rfl, rfl, rfl⟩)
      · refine r_iconst (v := 1) rfl dX11_isState_21 ?_
        refine r_goto (tgt := 26) dX11_isState_22 (by decide) ?_
        exact r_zret hG dX11_isState_26 (rfl) (⟨by have c0 : (0 : Int32).toNatClampNeg = 0 := rfl; simp_all [rIS, inR, b2], rfl, rfl, rfl⟩)
set_option maxRecDepth 100000 in
theorem c_X11_isArc (hM : x_Lay MR) {x : Int32} : Cf X yX11_isArc cX11_isArc 2 (some .boolean) 1 [.ref 124, .int x] n SH MI ML MR (some (.int (b2 (rIA MI x)))) MI ML MR := by
  refine Ct_of (by decide) (Nat.le_of_ble_eq_true rfl) (fun G hG => ?_)
  refine r_aload_n 0 rfl dX11_isArc_0 ?_
  refine r_geti dX11_isArc_1 fl_X11_257 rfl ?_
  refine r_ifeq (tgt := 26) dX11_isArc_4 (by decide) (fun zh4 => ?_) (fun zh4 => ?_)
  · refine r_iconst (v := 0) rfl dX11_isArc_26 ?_
    exact r_zret hG dX11_isArc_27 (rfl) (⟨by have c6 : (6 : Int32).toNatClampNeg = 6 := rfl; simp_all [rIA, inR, b2], rfl, rfl, rfl⟩)
  · refine r_iload_n 1 rfl dX11_isArc_7 ?_
    refine r_iflt (tgt := 26) dX11_isArc_8 (by decide) (fun zh8 => ?_) (fun zh8 => ?_)
    · refine r_iconst (v := 0) rfl dX11_isArc_26 ?_
      exact r_zret hG dX11_isArc_27 (rfl) (⟨by have c6 : (6 : Int32).toNatClampNeg = 6 := rfl; simp_all [rIA, inR, b2], rfl, rfl, rfl⟩)
    · refine r_iload_n 1 rfl dX11_isArc_11 ?_
      refine r_aload_n 0 rfl dX11_isArc_12 ?_
      refine r_getr dX11_isArc_13 fl_X11_31 rfl (hM _ _ _ rfl) ?_
      refine r_bipush (v := 6) rfl dX11_isArc_16 ?_
      refine r_iald dX11_isArc_18 rfl (vpk (k := 6) (by decide) (by decide) rfl) ?_
      refine r_icmpge (tgt := 26) dX11_isArc_19 (by decide) (fun zh19 => ?_) (fun zh19 => ?_)
      · refine r_iconst (v := 0) rfl dX11_isArc_26 ?_
        exact r_zret hG dX11_isArc_27 (rfl) (⟨by have c6 : (6 : Int32).toNatClampNeg = 6 := rfl; simp_all [rIA, inR, b2], rfl, rfl, rfl⟩)
      · refine r_iconst (v := 1) rfl dX11_isArc_22 ?_
        refine r_goto (tgt := 27) dX11_isArc_23 (by decide) ?_
        exact r_zret hG dX11_isArc_27 (rfl) (⟨by have c6 : (6 : Int32).toNatClampNeg = 6 := rfl; simp_all [rIA, inR, b2], rfl, rfl, rfl⟩)
set_option maxRecDepth 100000 in
theorem c_X11_isFunction {x : Int32} : Cf X yX11_isFunction cX11_isFunction 2 (some .boolean) 2 [.ref 124, .int x] n SH MI ML MR (some (.int (b2 (rIF MI x)))) MI ML MR := by
  refine Ct_of (by decide) (Nat.le_of_ble_eq_true rfl) (fun G hG => ?_)
  refine r_aload_n 0 rfl dX11_isFunction_0 ?_
  refine r_geti dX11_isFunction_1 fl_X11_257 rfl ?_
  refine r_ifeq (tgt := 20) dX11_isFunction_4 (by decide) (fun zh4 => ?_) (fun zh4 => ?_)
  · refine r_iconst (v := 0) rfl dX11_isFunction_20 ?_
    exact r_zret hG dX11_isFunction_21 (rfl) (⟨by (try rw [b2z] at zh13); simp_all [rIF, b2], rfl, rfl, rfl⟩)
  · refine r_iload_n 1 rfl dX11_isFunction_7 ?_
    refine r_iconst (v := 0) rfl dX11_isFunction_8 ?_
    refine r_iconst (v := 4) rfl dX11_isFunction_9 ?_
    refine r_Sf [.int _, .int _, .int _] dX11_isFunction_10 lk_X11_138 mb_X11_in sc_X11_in rfl (c_X11_in) rfl (Nat.le_of_ble_eq_true rfl) (rfl) ?_
    refine r_ifeq (tgt := 20) dX11_isFunction_13 (by decide) (fun zh13 => ?_) (fun zh13 => ?_)
    · refine r_iconst (v := 0) rfl dX11_isFunction_20 ?_
      exact r_zret hG dX11_isFunction_21 (rfl) (⟨by (try rw [b2z] at zh13); simp_all [rIF, b2], rfl, rfl, rfl⟩)
    · refine r_iconst (v := 1) rfl dX11_isFunction_16 ?_
      refine r_goto (tgt := 21) dX11_isFunction_17 (by decide) ?_
      exact r_zret hG dX11_isFunction_21 (rfl) (⟨by (try rw [b2z] at zh13); simp_all [rIF, b2], rfl, rfl, rfl⟩)
set_option maxRecDepth 100000 in
theorem c_X11_refuses {x : Int32} : Cf X yX11_refuses cX11_refuses 2 (some .int) 3 [.ref 124, .int x] n SH MI ML MR (some (.int (rTr MI x))) MI ML MR := by
  refine Ct_of (by decide) (Nat.le_of_ble_eq_true rfl) (fun G hG => ?_)
  refine r_aload_n 0 rfl dX11_refuses_0 ?_
  refine r_iload_n 1 rfl dX11_refuses_1 ?_
  refine r_Vf [.int _] dX11_refuses_2 lk_X11_341 mb_X11_isFunction in_X11_isFunction se_X11_isFunction rfl (c_X11_isFunction) rfl rfl rfl (Nat.le_of_ble_eq_true rfl) (rfl) ?_
  refine r_ifne (tgt := 12) dX11_refuses_5 (by decide) (fun zh5 => ?_) (fun zh5 => ?_)
  · refine r_aload_n 0 rfl dX11_refuses_12 ?_
    refine r_geti dX11_refuses_13 fl_X11_273 rfl ?_
    refine r_ifle (tgt := 23) dX11_refuses_16 (by decide) (fun zh16 => ?_) (fun zh16 => ?_)
    · refine r_iconst (v := 0) rfl dX11_refuses_23 ?_
      exact r_iret hG dX11_refuses_24 (by
          refine ⟨?_, rfl, rfl, rfl⟩
          unfold rTr
          first
            | (have zn : rIF MI x = true := b2n.mp zh5
               have zm : ¬ 0 < MI 124 27 := Int32.not_lt.mpr zh16
               rw [if_pos zn, if_neg zm])
            | (have zn : rIF MI x = true := b2n.mp zh5
               have zm : 0 < MI 124 27 := Int32.not_le.mp zh16
               rw [if_pos zn, if_pos zm])
            | (have zn : ¬ rIF MI x = true := by rw [b2z.mp zh5]; decide
               rw [if_neg zn]))
    · refine r_iconst (v := 5) rfl dX11_refuses_19 ?_
      refine r_goto (tgt := 24) dX11_refuses_20 (by decide) ?_
      exact r_iret hG dX11_refuses_24 (by
          refine ⟨?_, rfl, rfl, rfl⟩
          unfold rTr
          first
            | (have zn : rIF MI x = true := b2n.mp zh5
               have zm : ¬ 0 < MI 124 27 := Int32.not_lt.mpr zh16
               rw [if_pos zn, if_neg zm])
            | (have zn : rIF MI x = true := b2n.mp zh5
               have zm : 0 < MI 124 27 := Int32.not_le.mp zh16
               rw [if_pos zn, if_pos zm])
            | (have zn : ¬ rIF MI x = true := by rw [b2z.mp zh5]; decide
               rw [if_neg zn]))
  · refine r_iconst (v := 1) rfl dX11_refuses_8 ?_
    refine r_goto (tgt := 24) dX11_refuses_9 (by decide) ?_
    exact r_iret hG dX11_refuses_24 (by
        refine ⟨?_, rfl, rfl, rfl⟩
        unfold rTr
        first
          | (have zn : rIF MI x = true := b2n.mp zh5
             have zm : ¬ 0 < MI 124 27 := Int32.not_lt.mpr zh16
             rw [if_pos zn, if_neg zm])
          | (have zn : rIF MI x = true := b2n.mp zh5
             have zm : 0 < MI 124 27 := Int32.not_le.mp zh16
             rw [if_pos zn, if_pos zm])
          | (have zn : ¬ rIF MI x = true := by rw [b2z.mp zh5]; decide
             rw [if_neg zn]))
set_option maxRecDepth 100000 in
theorem c_X11_size (hM : x_Lay MR) {x : Int32} : Cf X yX11_size cX11_size 2 (some .int) 2 [.ref 124, .int x] n SH MI ML MR (some (.int (rzAns (th MI) x))) (th MI) ML MR := by
  obtain ⟨V, hV⟩ : ∃ V, V = th MI := ⟨_, rfl⟩
  rw [← hV]
  refine Ct_of (by decide) (Nat.le_of_ble_eq_true rfl) (fun G hG => ?_)
  have c0 : (0 : Int32).toNatClampNeg = 0 := rfl
  have c1 : (1 : Int32).toNatClampNeg = 1 := rfl
  have c6 : (6 : Int32).toNatClampNeg = 6 := rfl
  have c55 : (55 : Int32).toNatClampNeg = 55 := rfl
  refine r_aload_n 0 rfl dX11_size_0 ?_
  refine r_iconst (v := 0) rfl dX11_size_1 ?_
  refine r_puti dX11_size_2 fl_X11_3 rfl rfl rfl ?_
  refine r_mem hV.symm rfl rfl ?_
  refine r_iload_n 1 rfl dX11_size_5 ?_
  refine r_iconst (v := 4) rfl dX11_size_6 ?_
  refine r_icmpne (tgt := 15) dX11_size_7 (by decide) (fun zh7 => ?_) (fun zh7 => ?_)
  · refine r_iload_n 1 rfl dX11_size_15 ?_
    refine r_iconst (v := 0) rfl dX11_size_16 ?_
    refine r_iconst (v := 5) rfl dX11_size_17 ?_
    refine r_Sf [.int _, .int _, .int _] dX11_size_18 lk_X11_138 mb_X11_in sc_X11_in rfl (c_X11_in) rfl (Nat.le_of_ble_eq_true rfl) (rfl) ?_
    refine r_ifne (tgt := 26) dX11_size_21 (by decide) (fun zh21 => ?_) (fun zh21 => ?_)
    · refine r_aload_n 0 rfl dX11_size_26 ?_
      refine r_geti dX11_size_27 fl_X11_257 rfl ?_
      refine r_ifne (tgt := 35) dX11_size_30 (by decide) (fun zh30 => ?_) (fun zh30 => ?_)
      · refine r_iload_n 1 rfl dX11_size_35 ?_
        rcases tsw 4 x with zo36 | ⟨zk36, zl36, zx36⟩
        · refine r_tswO (tgt := 96) dX11_size_36 zo36 (by decide) ?_
          refine r_aload_n 0 rfl dX11_size_96 ?_
          refine r_getr dX11_size_97 fl_X11_37 rfl (hM _ _ _ rfl) ?_
          refine r_iconst (v := 1) rfl dX11_size_100 ?_
          refine r_iald dX11_size_101 rfl (vpk (k := 1) (by decide) (by decide) rfl) ?_
          exact r_iret hG dX11_size_102 (by
              refine ⟨?_, rfl, rfl, rfl⟩
              unfold rzAns
              first
                | (rw [if_pos zh7]; done)
                | (have zi : ¬ inB x 0 5 = true := by rw [b2z.mp zh21]; decide
                   rw [if_neg zh7, if_neg zi]; done)
                | (have zi : inB x 0 5 = true := b2n.mp zh21
                   rw [if_neg zh7, if_pos zi, if_pos zh30]; done)
                | (have zi : inB x 0 5 = true := b2n.mp zh21
                   rw [if_neg zh7, if_pos zi, if_neg zh30, zx36]; rfl)
                | (have zi : inB x 0 5 = true := b2n.mp zh21
                   obtain ⟨f, hf, rfl⟩ := inB_ex (N := 5) (by decide) zi
                   rw [nI_toInt (by omega)] at zo36
                   have h4 : ¬ f = 4 := fun z => zh7 (by rw [z]; rfl)
                   obtain rfl : f = 5 := by omega
                   rw [if_neg zh7, if_pos zi, if_neg zh30]; rfl))
        · rcases (show zk36 = 0 ∨ zk36 = 1 ∨ zk36 = 2 ∨ zk36 = 3 by omega) with zy36 | zy36 | zy36 | zy36
          · rw [zy36] at zx36
            refine r_tswI (k := 0) (tgt := 68) dX11_size_36 zx36 (by decide) (by decide) rfl (by decide) ?_
            refine r_aload_n 0 rfl dX11_size_68 ?_
            refine r_getr dX11_size_69 fl_X11_37 rfl (hM _ _ _ rfl) ?_
            refine r_iconst (v := 0) rfl dX11_size_72 ?_
            refine r_iald dX11_size_73 rfl (vpk (k := 0) (by decide) (by decide) rfl) ?_
            exact r_iret hG dX11_size_74 (by
                refine ⟨?_, rfl, rfl, rfl⟩
                unfold rzAns
                first
                  | (rw [if_pos zh7]; done)
                  | (have zi : ¬ inB x 0 5 = true := by rw [b2z.mp zh21]; decide
                     rw [if_neg zh7, if_neg zi]; done)
                  | (have zi : inB x 0 5 = true := b2n.mp zh21
                     rw [if_neg zh7, if_pos zi, if_pos zh30]; done)
                  | (have zi : inB x 0 5 = true := b2n.mp zh21
                     rw [if_neg zh7, if_pos zi, if_neg zh30, zx36]; rfl)
                  | (have zi : inB x 0 5 = true := b2n.mp zh21
                     obtain ⟨f, hf, rfl⟩ := inB_ex (N := 5) (by decide) zi
                     rw [nI_toInt (by omega)] at zo36
                     have h4 : ¬ f = 4 := fun z => zh7 (by rw [z]; rfl)
                     obtain rfl : f = 5 := by omega
                     rw [if_neg zh7, if_pos zi, if_neg zh30]; rfl))
          · rw [zy36] at zx36
            refine r_tswI (k := 1) (tgt := 75) dX11_size_36 zx36 (by decide) (by decide) rfl (by decide) ?_
            refine r_aload_n 0 rfl dX11_size_75 ?_
            refine r_getr dX11_size_76 fl_X11_31 rfl (hM _ _ _ rfl) ?_
            refine r_bipush (v := 6) rfl dX11_size_79 ?_
            refine r_iald dX11_size_81 rfl (vpk (k := 6) (by decide) (by decide) rfl) ?_
            exact r_iret hG dX11_size_82 (by
                refine ⟨?_, rfl, rfl, rfl⟩
                unfold rzAns
                first
                  | (rw [if_pos zh7]; done)
                  | (have zi : ¬ inB x 0 5 = true := by rw [b2z.mp zh21]; decide
                     rw [if_neg zh7, if_neg zi]; done)
                  | (have zi : inB x 0 5 = true := b2n.mp zh21
                     rw [if_neg zh7, if_pos zi, if_pos zh30]; done)
                  | (have zi : inB x 0 5 = true := b2n.mp zh21
                     rw [if_neg zh7, if_pos zi, if_neg zh30, zx36]; rfl)
                  | (have zi : inB x 0 5 = true := b2n.mp zh21
                     obtain ⟨f, hf, rfl⟩ := inB_ex (N := 5) (by decide) zi
                     rw [nI_toInt (by omega)] at zo36
                     have h4 : ¬ f = 4 := fun z => zh7 (by rw [z]; rfl)
                     obtain rfl : f = 5 := by omega
                     rw [if_neg zh7, if_pos zi, if_neg zh30]; rfl))
          · rw [zy36] at zx36
            refine r_tswI (k := 2) (tgt := 83) dX11_size_36 zx36 (by decide) (by decide) rfl (by decide) ?_
            refine r_aload_n 0 rfl dX11_size_83 ?_
            refine r_getr dX11_size_84 fl_X11_31 rfl (hM _ _ _ rfl) ?_
            refine r_bipush (v := 55) rfl dX11_size_87 ?_
            refine r_iald dX11_size_89 rfl (vpk (k := 55) (by decide) (by decide) rfl) ?_
            exact r_iret hG dX11_size_90 (by
                refine ⟨?_, rfl, rfl, rfl⟩
                unfold rzAns
                first
                  | (rw [if_pos zh7]; done)
                  | (have zi : ¬ inB x 0 5 = true := by rw [b2z.mp zh21]; decide
                     rw [if_neg zh7, if_neg zi]; done)
                  | (have zi : inB x 0 5 = true := b2n.mp zh21
                     rw [if_neg zh7, if_pos zi, if_pos zh30]; done)
                  | (have zi : inB x 0 5 = true := b2n.mp zh21
                     rw [if_neg zh7, if_pos zi, if_neg zh30, zx36]; rfl)
                  | (have zi : inB x 0 5 = true := b2n.mp zh21
                     obtain ⟨f, hf, rfl⟩ := inB_ex (N := 5) (by decide) zi
                     rw [nI_toInt (by omega)] at zo36
                     have h4 : ¬ f = 4 := fun z => zh7 (by rw [z]; rfl)
                     obtain rfl : f = 5 := by omega
                     rw [if_neg zh7, if_pos zi, if_neg zh30]; rfl))
          · rw [zy36] at zx36
            refine r_tswI (k := 3) (tgt := 91) dX11_size_36 zx36 (by decide) (by decide) rfl (by decide) ?_
            refine r_aload_n 0 rfl dX11_size_91 ?_
            refine r_geti dX11_size_92 fl_X11_261 rfl ?_
            exact r_iret hG dX11_size_95 (by
                refine ⟨?_, rfl, rfl, rfl⟩
                unfold rzAns
                first
                  | (rw [if_pos zh7]; done)
                  | (have zi : ¬ inB x 0 5 = true := by rw [b2z.mp zh21]; decide
                     rw [if_neg zh7, if_neg zi]; done)
                  | (have zi : inB x 0 5 = true := b2n.mp zh21
                     rw [if_neg zh7, if_pos zi, if_pos zh30]; done)
                  | (have zi : inB x 0 5 = true := b2n.mp zh21
                     rw [if_neg zh7, if_pos zi, if_neg zh30, zx36]; rfl)
                  | (have zi : inB x 0 5 = true := b2n.mp zh21
                     obtain ⟨f, hf, rfl⟩ := inB_ex (N := 5) (by decide) zi
                     rw [nI_toInt (by omega)] at zo36
                     have h4 : ¬ f = 4 := fun z => zh7 (by rw [z]; rfl)
                     obtain rfl : f = 5 := by omega
                     rw [if_neg zh7, if_pos zi, if_neg zh30]; rfl))
      · refine r_iconst (v := 0) rfl dX11_size_33 ?_
        exact r_iret hG dX11_size_34 (by
            refine ⟨?_, rfl, rfl, rfl⟩
            unfold rzAns
            first
              | (rw [if_pos zh7]; done)
              | (have zi : ¬ inB x 0 5 = true := by rw [b2z.mp zh21]; decide
                 rw [if_neg zh7, if_neg zi]; done)
              | (have zi : inB x 0 5 = true := b2n.mp zh21
                 rw [if_neg zh7, if_pos zi, if_pos zh30]; done)
              | (have zi : inB x 0 5 = true := b2n.mp zh21
                 rw [if_neg zh7, if_pos zi, if_neg zh30, zx36]; rfl)
              | (have zi : inB x 0 5 = true := b2n.mp zh21
                 obtain ⟨f, hf, rfl⟩ := inB_ex (N := 5) (by decide) zi
                 rw [nI_toInt (by omega)] at zo36
                 have h4 : ¬ f = 4 := fun z => zh7 (by rw [z]; rfl)
                 obtain rfl : f = 5 := by omega
                 rw [if_neg zh7, if_pos zi, if_neg zh30]; rfl))
    · refine r_iconst (v := (-1)) rfl dX11_size_24 ?_
      exact r_iret hG dX11_size_25 (by
          refine ⟨?_, rfl, rfl, rfl⟩
          unfold rzAns
          first
            | (rw [if_pos zh7]; done)
            | (have zi : ¬ inB x 0 5 = true := by rw [b2z.mp zh21]; decide
               rw [if_neg zh7, if_neg zi]; done)
            | (have zi : inB x 0 5 = true := b2n.mp zh21
               rw [if_neg zh7, if_pos zi, if_pos zh30]; done)
            | (have zi : inB x 0 5 = true := b2n.mp zh21
               rw [if_neg zh7, if_pos zi, if_neg zh30, zx36]; rfl)
            | (have zi : inB x 0 5 = true := b2n.mp zh21
               obtain ⟨f, hf, rfl⟩ := inB_ex (N := 5) (by decide) zi
               rw [nI_toInt (by omega)] at zo36
               have h4 : ¬ f = 4 := fun z => zh7 (by rw [z]; rfl)
               obtain rfl : f = 5 := by omega
               rw [if_neg zh7, if_pos zi, if_neg zh30]; rfl))
  · refine r_aload_n 0 rfl dX11_size_10 ?_
    refine r_geti dX11_size_11 fl_X11_248 rfl ?_
    exact r_iret hG dX11_size_14 (by
        refine ⟨?_, rfl, rfl, rfl⟩
        unfold rzAns
        first
          | (rw [if_pos zh7]; done)
          | (have zi : ¬ inB x 0 5 = true := by rw [b2z.mp zh21]; decide
             rw [if_neg zh7, if_neg zi]; done)
          | (have zi : inB x 0 5 = true := b2n.mp zh21
             rw [if_neg zh7, if_pos zi, if_pos zh30]; done)
          | (have zi : inB x 0 5 = true := b2n.mp zh21
             rw [if_neg zh7, if_pos zi, if_neg zh30, zx36]; rfl)
          | (have zi : inB x 0 5 = true := b2n.mp zh21
             obtain ⟨f, hf, rfl⟩ := inB_ex (N := 5) (by decide) zi
             rw [nI_toInt (by omega)] at zo36
             have h4 : ¬ f = 4 := fun z => zh7 (by rw [z]; rfl)
             obtain rfl : f = 5 := by omega
             rw [if_neg zh7, if_pos zi, if_neg zh30]; rfl))
set_option maxRecDepth 100000 in
theorem c_X11_bad : Cf X yX11_bad cX11_bad 1 (some .int) 2 [.ref 124] n SH MI ML MR (some (.int (if th MI 124 20 = 0 then -1 else th MI 124 27))) (rfM (th MI) (if th MI 124 20 = 0 then 1 else 0)) ML MR := by
  obtain ⟨V, hV⟩ : ∃ V, V = th MI := ⟨_, rfl⟩
  rw [← hV]
  refine Ct_of (by decide) (Nat.le_of_ble_eq_true rfl) (fun G hG => ?_)
  refine r_aload_n 0 rfl dX11_bad_0 ?_
  refine r_iconst (v := 0) rfl dX11_bad_1 ?_
  refine r_puti dX11_bad_2 fl_X11_3 rfl rfl rfl ?_
  refine r_mem hV.symm rfl rfl ?_
  refine r_aload_n 0 rfl dX11_bad_5 ?_
  refine r_geti dX11_bad_6 fl_X11_257 rfl ?_
  refine r_ifne (tgt := 18) dX11_bad_9 (by decide) (fun zh9 => ?_) (fun zh9 => ?_)
  · refine r_aload_n 0 rfl dX11_bad_18 ?_
    refine r_aload_n 0 rfl dX11_bad_19 ?_
    refine r_geti dX11_bad_20 fl_X11_273 rfl ?_
    refine r_Vf [.int _] dX11_bad_23 lk_X11_267 mb_X11_good in_X11_good se_X11_good rfl (c_X11_good) rfl rfl rfl (Nat.le_of_ble_eq_true rfl) (rfl) ?_
    exact r_iret hG dX11_bad_26 (by first | (rw [if_neg zh9, if_neg zh9]; exact ⟨rfl, rfl, rfl, rfl⟩) | (rw [if_pos zh9, if_pos zh9]; exact ⟨rfl, rfl, rfl, rfl⟩))
  · refine r_aload_n 0 rfl dX11_bad_12 ?_
    refine r_iconst (v := 1) rfl dX11_bad_13 ?_
    refine r_Vf [.int _] dX11_bad_14 lk_X11_251 mb_X11_refused in_X11_refused se_X11_refused rfl (c_X11_refused) rfl rfl rfl (Nat.le_of_ble_eq_true rfl) (rfl) ?_
    exact r_iret hG dX11_bad_17 (by first | (rw [if_neg zh9, if_neg zh9]; exact ⟨rfl, rfl, rfl, rfl⟩) | (rw [if_pos zh9, if_pos zh9]; exact ⟨rfl, rfl, rfl, rfl⟩))
set_option maxRecDepth 100000 in
theorem c_X11_badAt : Cf X yX11_badAt cX11_badAt 1 (some .int) 2 [.ref 124] n SH MI ML MR (some (.int (if th MI 124 20 = 0 then -1 else th MI 124 28))) (rfM (th MI) (if th MI 124 20 = 0 then 1 else 0)) ML MR := by
  obtain ⟨V, hV⟩ : ∃ V, V = th MI := ⟨_, rfl⟩
  rw [← hV]
  refine Ct_of (by decide) (Nat.le_of_ble_eq_true rfl) (fun G hG => ?_)
  refine r_aload_n 0 rfl dX11_badAt_0 ?_
  refine r_iconst (v := 0) rfl dX11_badAt_1 ?_
  refine r_puti dX11_badAt_2 fl_X11_3 rfl rfl rfl ?_
  refine r_mem hV.symm rfl rfl ?_
  refine r_aload_n 0 rfl dX11_badAt_5 ?_
  refine r_geti dX11_badAt_6 fl_X11_257 rfl ?_
  refine r_ifne (tgt := 18) dX11_badAt_9 (by decide) (fun zh9 => ?_) (fun zh9 => ?_)
  · refine r_aload_n 0 rfl dX11_badAt_18 ?_
    refine r_aload_n 0 rfl dX11_badAt_19 ?_
    refine r_geti dX11_badAt_20 fl_X11_276 rfl ?_
    refine r_Vf [.int _] dX11_badAt_23 lk_X11_267 mb_X11_good in_X11_good se_X11_good rfl (c_X11_good) rfl rfl rfl (Nat.le_of_ble_eq_true rfl) (rfl) ?_
    exact r_iret hG dX11_badAt_26 (by first | (rw [if_neg zh9, if_neg zh9]; exact ⟨rfl, rfl, rfl, rfl⟩) | (rw [if_pos zh9, if_pos zh9]; exact ⟨rfl, rfl, rfl, rfl⟩))
  · refine r_aload_n 0 rfl dX11_badAt_12 ?_
    refine r_iconst (v := 1) rfl dX11_badAt_13 ?_
    refine r_Vf [.int _] dX11_badAt_14 lk_X11_251 mb_X11_refused in_X11_refused se_X11_refused rfl (c_X11_refused) rfl rfl rfl (Nat.le_of_ble_eq_true rfl) (rfl) ?_
    exact r_iret hG dX11_badAt_17 (by first | (rw [if_neg zh9, if_neg zh9]; exact ⟨rfl, rfl, rfl, rfl⟩) | (rw [if_pos zh9, if_pos zh9]; exact ⟨rfl, rfl, rfl, rfl⟩))
theorem rIS_ex {V : Mi} {x : Int32} {S : Nat} (hS : S < 2 ^ 31) (hSr : V 130 0 = nI S) (h : rIS V x = true) : ∃ k, k < S ∧ x = nI k := by
  have h2 := (and_t.mp h).2
  rw [hSr] at h2
  have h3 := inR_t.mp h2
  exact inR_ex hS h3.1 h3.2
theorem rIA_ex {V : Mi} {x : Int32} {A : Nat} (hA : A < 2 ^ 31) (hAr : V 128 6 = nI A) (h : rIA V x = true) : ∃ k, k < A ∧ x = nI k := by
  have h2 := (and_t.mp h).2
  rw [hAr] at h2
  have h3 := inR_t.mp h2
  exact inR_ex hA h3.1 h3.2
set_option maxRecDepth 100000 in
theorem c_X11_state (hM : x_Lay MR) {S : Nat} (hS : S ≤ 6) (hSr : MI 130 0 = nI S) {x y : Int32} : Cf X yX11_state cX11_state 3 (some .int) 2 [.ref 124, .int x, .int y] n SH MI ML MR (some (.int (rsAns (th MI) x y).1)) (rfM (th MI) (rsAns (th MI) x y).2) ML MR := by
  obtain ⟨V, hV⟩ : ∃ V, V = th MI := ⟨_, rfl⟩
  have hSV : V 130 0 = nI S := by rw [hV]; exact hSr
  rw [← hV]
  by_cases hc : rIS V x = true ∧ inB y 0 2 = true
  · obtain ⟨k, hk, rfl⟩ := rIS_ex (by omega) hSV hc.1
    have ck : (nI k).toNatClampNeg = k := nI_clamp (by omega)
    have ha : rsAns V (nI k) y = (if y = 0 then (V 128 k, 0) else if V 133 k = 0 then (-2, 0) else ((if y = 1 then V 135 k else V 136 k), 0)) := by unfold rsAns; rw [if_pos hc, ck]
    rw [ha]
    refine Ct_of (by decide) (Nat.le_of_ble_eq_true rfl) (fun G hG => ?_)
    refine r_aload_n 0 rfl dX11_state_0 ?_
    refine r_iconst (v := 0) rfl dX11_state_1 ?_
    refine r_puti dX11_state_2 fl_X11_3 rfl rfl rfl ?_
    refine r_mem hV.symm rfl rfl ?_
    refine r_aload_n 0 rfl dX11_state_5 ?_
    refine r_iload_n 1 rfl dX11_state_6 ?_
    refine r_Vf [.int _] dX11_state_7 lk_X11_335 mb_X11_isState in_X11_isState se_X11_isState rfl (c_X11_isState hM) rfl rfl rfl (Nat.le_of_ble_eq_true rfl) (rfl) ?_
    refine r_ifeq (tgt := 22) dX11_state_10 (by decide) (fun zh10 => ?_) (fun zh10 => ?_)
    · exact absurd zh10 (b2n.mpr hc.1)
    refine r_iload_n 2 rfl dX11_state_13 ?_
    refine r_iconst (v := 0) rfl dX11_state_14 ?_
    refine r_iconst (v := 2) rfl dX11_state_15 ?_
    refine r_Sf [.int _, .int _, .int _] dX11_state_16 lk_X11_138 mb_X11_in sc_X11_in rfl (c_X11_in) rfl (Nat.le_of_ble_eq_true rfl) (rfl) ?_
    refine r_ifne (tgt := 28) dX11_state_19 (by decide) (fun zh19 => ?_) (fun zh19 => ?_)
    rotate_left
    · exact absurd zh19 (b2n.mpr hc.2)
    refine r_iload_n 2 rfl dX11_state_28 ?_
    refine r_ifne (tgt := 42) dX11_state_29 (by decide) (fun zh29 => ?_) (fun zh29 => ?_)
    · refine r_aload_n 0 rfl dX11_state_42 ?_
      refine r_aload_n 0 rfl dX11_state_43 ?_
      refine r_getr dX11_state_44 fl_X11_46 rfl (hM _ _ _ rfl) ?_
      refine r_iload_n 1 rfl dX11_state_47 ?_
      refine r_zald dX11_state_48 rfl (vp_in_nI (show k < 6 by omega) (by decide)) ?_
      refine r_ifne (tgt := 57) dX11_state_49 (by decide) (fun zh49 => ?_) (fun zh49 => ?_)
      · refine r_iload_n 2 rfl dX11_state_57 ?_
        refine r_iconst (v := 1) rfl dX11_state_58 ?_
        refine r_icmpne (tgt := 71) dX11_state_59 (by decide) (fun zh59 => ?_) (fun zh59 => ?_)
        · refine r_aload_n 0 rfl dX11_state_71 ?_
          refine r_getr dX11_state_72 fl_X11_56 rfl (hM _ _ _ rfl) ?_
          refine r_iload_n 1 rfl dX11_state_75 ?_
          refine r_iald dX11_state_76 rfl (vp_in_nI (show k < 6 by omega) (by decide)) ?_
          refine r_Vf [.int _] dX11_state_77 lk_X11_267 mb_X11_good in_X11_good se_X11_good rfl (c_X11_good) rfl rfl rfl (Nat.le_of_ble_eq_true rfl) (rfl) ?_
          exact r_iret hG dX11_state_80 (by
              first
                | (rw [if_pos zh29]; exact ⟨rfl, rfl, rfl, rfl⟩)
                | (rw [ck] at zh49 ⊢
                   first
                     | (rw [if_neg zh29, if_pos zh49]; exact ⟨rfl, rfl, rfl, rfl⟩)
                     | (rw [if_neg zh29, if_neg zh49, if_pos zh59]; exact ⟨rfl, rfl, rfl, rfl⟩)
                     | (rw [if_neg zh29, if_neg zh49, if_neg zh59]; exact ⟨rfl, rfl, rfl, rfl⟩))
                | (rw [ck] at zh49
                   rw [if_neg zh29, if_pos zh49]; exact ⟨rfl, rfl, rfl, rfl⟩))
        · refine r_aload_n 0 rfl dX11_state_62 ?_
          refine r_getr dX11_state_63 fl_X11_53 rfl (hM _ _ _ rfl) ?_
          refine r_iload_n 1 rfl dX11_state_66 ?_
          refine r_iald dX11_state_67 rfl (vp_in_nI (show k < 6 by omega) (by decide)) ?_
          refine r_goto (tgt := 77) dX11_state_68 (by decide) ?_
          refine r_Vf [.int _] dX11_state_77 lk_X11_267 mb_X11_good in_X11_good se_X11_good rfl (c_X11_good) rfl rfl rfl (Nat.le_of_ble_eq_true rfl) (rfl) ?_
          exact r_iret hG dX11_state_80 (by
              first
                | (rw [if_pos zh29]; exact ⟨rfl, rfl, rfl, rfl⟩)
                | (rw [ck] at zh49 ⊢
                   first
                     | (rw [if_neg zh29, if_pos zh49]; exact ⟨rfl, rfl, rfl, rfl⟩)
                     | (rw [if_neg zh29, if_neg zh49, if_pos zh59]; exact ⟨rfl, rfl, rfl, rfl⟩)
                     | (rw [if_neg zh29, if_neg zh49, if_neg zh59]; exact ⟨rfl, rfl, rfl, rfl⟩))
                | (rw [ck] at zh49
                   rw [if_neg zh29, if_pos zh49]; exact ⟨rfl, rfl, rfl, rfl⟩))
      · refine r_bipush (v := (-2)) rfl dX11_state_52 ?_
        refine r_goto (tgt := 77) dX11_state_54 (by decide) ?_
        refine r_Vf [.int _] dX11_state_77 lk_X11_267 mb_X11_good in_X11_good se_X11_good rfl (c_X11_good) rfl rfl rfl (Nat.le_of_ble_eq_true rfl) (rfl) ?_
        exact r_iret hG dX11_state_80 (by
            first
              | (rw [if_pos zh29]; exact ⟨rfl, rfl, rfl, rfl⟩)
              | (rw [ck] at zh49 ⊢
                 first
                   | (rw [if_neg zh29, if_pos zh49]; exact ⟨rfl, rfl, rfl, rfl⟩)
                   | (rw [if_neg zh29, if_neg zh49, if_pos zh59]; exact ⟨rfl, rfl, rfl, rfl⟩)
                   | (rw [if_neg zh29, if_neg zh49, if_neg zh59]; exact ⟨rfl, rfl, rfl, rfl⟩))
              | (rw [ck] at zh49
                 rw [if_neg zh29, if_pos zh49]; exact ⟨rfl, rfl, rfl, rfl⟩))
    · refine r_aload_n 0 rfl dX11_state_32 ?_
      refine r_aload_n 0 rfl dX11_state_33 ?_
      refine r_iload_n 1 rfl dX11_state_34 ?_
      refine r_Vf [.int _] dX11_state_35 lk_X11_310 mb_X11_codeOf in_X11_codeOf se_X11_codeOf rfl (c_X11_codeOf hM (show k < 6 by omega)) rfl rfl rfl (Nat.le_of_ble_eq_true rfl) (rfl) ?_
      refine r_Vf [.int _] dX11_state_38 lk_X11_267 mb_X11_good in_X11_good se_X11_good rfl (c_X11_good) rfl rfl rfl (Nat.le_of_ble_eq_true rfl) (rfl) ?_
      exact r_iret hG dX11_state_41 (by
          first
            | (rw [if_pos zh29]; exact ⟨rfl, rfl, rfl, rfl⟩)
            | (rw [ck] at zh49 ⊢
               first
                 | (rw [if_neg zh29, if_pos zh49]; exact ⟨rfl, rfl, rfl, rfl⟩)
                 | (rw [if_neg zh29, if_neg zh49, if_pos zh59]; exact ⟨rfl, rfl, rfl, rfl⟩)
                 | (rw [if_neg zh29, if_neg zh49, if_neg zh59]; exact ⟨rfl, rfl, rfl, rfl⟩))
            | (rw [ck] at zh49
               rw [if_neg zh29, if_pos zh49]; exact ⟨rfl, rfl, rfl, rfl⟩))
  · have ha : rsAns V x y = (-1, 1) := by unfold rsAns; rw [if_neg hc]
    rw [ha]
    refine Ct_of (by decide) (Nat.le_of_ble_eq_true rfl) (fun G hG => ?_)
    refine r_aload_n 0 rfl dX11_state_0 ?_
    refine r_iconst (v := 0) rfl dX11_state_1 ?_
    refine r_puti dX11_state_2 fl_X11_3 rfl rfl rfl ?_
    refine r_mem hV.symm rfl rfl ?_
    refine r_aload_n 0 rfl dX11_state_5 ?_
    refine r_iload_n 1 rfl dX11_state_6 ?_
    refine r_Vf [.int _] dX11_state_7 lk_X11_335 mb_X11_isState in_X11_isState se_X11_isState rfl (c_X11_isState hM) rfl rfl rfl (Nat.le_of_ble_eq_true rfl) (rfl) ?_
    refine r_ifeq (tgt := 22) dX11_state_10 (by decide) (fun zh10 => ?_) (fun zh10 => ?_)
    · refine r_aload_n 0 rfl dX11_state_22 ?_
      refine r_iconst (v := 1) rfl dX11_state_23 ?_
      refine r_Vf [.int _] dX11_state_24 lk_X11_251 mb_X11_refused in_X11_refused se_X11_refused rfl (c_X11_refused) rfl rfl rfl (Nat.le_of_ble_eq_true rfl) (rfl) ?_
      exact r_iret hG dX11_state_27 (⟨rfl, rfl, rfl, rfl⟩)
    · refine r_iload_n 2 rfl dX11_state_13 ?_
      refine r_iconst (v := 0) rfl dX11_state_14 ?_
      refine r_iconst (v := 2) rfl dX11_state_15 ?_
      refine r_Sf [.int _, .int _, .int _] dX11_state_16 lk_X11_138 mb_X11_in sc_X11_in rfl (c_X11_in) rfl (Nat.le_of_ble_eq_true rfl) (rfl) ?_
      refine r_ifne (tgt := 28) dX11_state_19 (by decide) (fun zh19 => ?_) (fun zh19 => ?_)
      · exact absurd ⟨b2n.mp zh10, b2n.mp zh19⟩ hc
      · refine r_aload_n 0 rfl dX11_state_22 ?_
        refine r_iconst (v := 1) rfl dX11_state_23 ?_
        refine r_Vf [.int _] dX11_state_24 lk_X11_251 mb_X11_refused in_X11_refused se_X11_refused rfl (c_X11_refused) rfl rfl rfl (Nat.le_of_ble_eq_true rfl) (rfl) ?_
        exact r_iret hG dX11_state_27 (⟨rfl, rfl, rfl, rfl⟩)
set_option maxRecDepth 100000 in
theorem c_X11_arc (hM : x_Lay MR) {A : Nat} (hA : A ≤ 8) (hAr : MI 128 6 = nI A) {x y : Int32} : Cf X yX11_arc cX11_arc 3 (some .int) 2 [.ref 124, .int x, .int y] n SH MI ML MR (some (.int (raAns (th MI) x y).1)) (rfM (th MI) (raAns (th MI) x y).2) ML MR := by
  obtain ⟨V, hV⟩ : ∃ V, V = th MI := ⟨_, rfl⟩
  have hAV : V 128 6 = nI A := by rw [hV]; exact hAr
  rw [← hV]
  by_cases hc : rIA V x = true ∧ inB y 0 6 = true
  · obtain ⟨k, hk, rfl⟩ := rIA_ex (by omega) hAV hc.1
    obtain ⟨j, hj, rfl⟩ := inB_ex (N := 6) (by decide) hc.2
    have ck : (nI k).toNatClampNeg = k := nI_clamp (by omega)
    have cj : (nI j).toNatClampNeg = j := nI_clamp (by omega)
    have ha : raAns V (nI k) (nI j) = ((if nI j < 6 then V 128 (7 + 6 * k + j) else if V 134 k = 0 then 0 else 1), 0) := by unfold raAns; rw [if_pos hc, ck, cj]
    rw [ha]
    refine Ct_of (by decide) (Nat.le_of_ble_eq_true rfl) (fun G hG => ?_)
    refine r_aload_n 0 rfl dX11_arc_0 ?_
    refine r_iconst (v := 0) rfl dX11_arc_1 ?_
    refine r_puti dX11_arc_2 fl_X11_3 rfl rfl rfl ?_
    refine r_mem hV.symm rfl rfl ?_
    refine r_aload_n 0 rfl dX11_arc_5 ?_
    refine r_iload_n 1 rfl dX11_arc_6 ?_
    refine r_Vf [.int _] dX11_arc_7 lk_X11_338 mb_X11_isArc in_X11_isArc se_X11_isArc rfl (c_X11_isArc hM) rfl rfl rfl (Nat.le_of_ble_eq_true rfl) (rfl) ?_
    refine r_ifeq (tgt := 23) dX11_arc_10 (by decide) (fun zh10 => ?_) (fun zh10 => ?_)
    · exact absurd zh10 (b2n.mpr hc.1)
    refine r_iload_n 2 rfl dX11_arc_13 ?_
    refine r_iconst (v := 0) rfl dX11_arc_14 ?_
    refine r_bipush (v := 6) rfl dX11_arc_15 ?_
    refine r_Sf [.int _, .int _, .int _] dX11_arc_17 lk_X11_138 mb_X11_in sc_X11_in rfl (c_X11_in) rfl (Nat.le_of_ble_eq_true rfl) (rfl) ?_
    refine r_ifne (tgt := 29) dX11_arc_20 (by decide) (fun zh20 => ?_) (fun zh20 => ?_)
    rotate_left
    · exact absurd zh20 (b2n.mpr hc.2)
    refine r_aload_n 0 rfl dX11_arc_29 ?_
    refine r_iload_n 2 rfl dX11_arc_30 ?_
    refine r_bipush (v := 6) rfl dX11_arc_31 ?_
    refine r_icmpge (tgt := 45) dX11_arc_33 (by decide) (fun zh33 => ?_) (fun zh33 => ?_)
    · refine r_aload_n 0 rfl dX11_arc_45 ?_
      refine r_getr dX11_arc_46 fl_X11_50 rfl (hM _ _ _ rfl) ?_
      refine r_iload_n 1 rfl dX11_arc_49 ?_
      refine r_zald dX11_arc_50 rfl (vp_in_nI (show k < 8 by omega) (by decide)) ?_
      refine r_ifeq (tgt := 58) dX11_arc_51 (by decide) (fun zh51 => ?_) (fun zh51 => ?_)
      · refine r_iconst (v := 0) rfl dX11_arc_58 ?_
        refine r_Vf [.int _] dX11_arc_59 lk_X11_267 mb_X11_good in_X11_good se_X11_good rfl (c_X11_good) rfl rfl rfl (Nat.le_of_ble_eq_true rfl) (rfl) ?_
        exact r_iret hG dX11_arc_62 (by
            first
              | (have zl : nI j < 6 := Int32.not_le.mp zh33
                 rw [if_pos zl]; exact ⟨rfl, rfl, rfl, rfl⟩)
              | (have zl : ¬ nI j < 6 := Int32.not_lt.mpr zh33
                 rw [ck] at zh51
                 rw [if_neg zl, if_pos zh51]; exact ⟨rfl, rfl, rfl, rfl⟩)
              | (have zl : ¬ nI j < 6 := Int32.not_lt.mpr zh33
                 rw [ck] at zh51
                 rw [if_neg zl, if_neg zh51]; exact ⟨rfl, rfl, rfl, rfl⟩))
      · refine r_iconst (v := 1) rfl dX11_arc_54 ?_
        refine r_goto (tgt := 59) dX11_arc_55 (by decide) ?_
        refine r_Vf [.int _] dX11_arc_59 lk_X11_267 mb_X11_good in_X11_good se_X11_good rfl (c_X11_good) rfl rfl rfl (Nat.le_of_ble_eq_true rfl) (rfl) ?_
        exact r_iret hG dX11_arc_62 (by
            first
              | (have zl : nI j < 6 := Int32.not_le.mp zh33
                 rw [if_pos zl]; exact ⟨rfl, rfl, rfl, rfl⟩)
              | (have zl : ¬ nI j < 6 := Int32.not_lt.mpr zh33
                 rw [ck] at zh51
                 rw [if_neg zl, if_pos zh51]; exact ⟨rfl, rfl, rfl, rfl⟩)
              | (have zl : ¬ nI j < 6 := Int32.not_lt.mpr zh33
                 rw [ck] at zh51
                 rw [if_neg zl, if_neg zh51]; exact ⟨rfl, rfl, rfl, rfl⟩))
    · refine r_aload_n 0 rfl dX11_arc_36 ?_
      refine r_iload_n 1 rfl dX11_arc_37 ?_
      refine r_iload_n 2 rfl dX11_arc_38 ?_
      refine r_Vf [.int _, .int _] dX11_arc_39 lk_X11_270 mb_X11_arcOf in_X11_arcOf se_X11_arcOf rfl (c_X11_arcOf hM (show k < 8 by omega) (show j < 6 from ltL (by omega) zh33)) rfl rfl rfl (Nat.le_of_ble_eq_true rfl) (rfl) ?_
      refine r_goto (tgt := 59) dX11_arc_42 (by decide) ?_
      refine r_Vf [.int _] dX11_arc_59 lk_X11_267 mb_X11_good in_X11_good se_X11_good rfl (c_X11_good) rfl rfl rfl (Nat.le_of_ble_eq_true rfl) (rfl) ?_
      exact r_iret hG dX11_arc_62 (by
          first
            | (have zl : nI j < 6 := Int32.not_le.mp zh33
               rw [if_pos zl]; exact ⟨rfl, rfl, rfl, rfl⟩)
            | (have zl : ¬ nI j < 6 := Int32.not_lt.mpr zh33
               rw [ck] at zh51
               rw [if_neg zl, if_pos zh51]; exact ⟨rfl, rfl, rfl, rfl⟩)
            | (have zl : ¬ nI j < 6 := Int32.not_lt.mpr zh33
               rw [ck] at zh51
               rw [if_neg zl, if_neg zh51]; exact ⟨rfl, rfl, rfl, rfl⟩))
  · have ha : raAns V x y = (-1, 1) := by unfold raAns; rw [if_neg hc]
    rw [ha]
    refine Ct_of (by decide) (Nat.le_of_ble_eq_true rfl) (fun G hG => ?_)
    refine r_aload_n 0 rfl dX11_arc_0 ?_
    refine r_iconst (v := 0) rfl dX11_arc_1 ?_
    refine r_puti dX11_arc_2 fl_X11_3 rfl rfl rfl ?_
    refine r_mem hV.symm rfl rfl ?_
    refine r_aload_n 0 rfl dX11_arc_5 ?_
    refine r_iload_n 1 rfl dX11_arc_6 ?_
    refine r_Vf [.int _] dX11_arc_7 lk_X11_338 mb_X11_isArc in_X11_isArc se_X11_isArc rfl (c_X11_isArc hM) rfl rfl rfl (Nat.le_of_ble_eq_true rfl) (rfl) ?_
    refine r_ifeq (tgt := 23) dX11_arc_10 (by decide) (fun zh10 => ?_) (fun zh10 => ?_)
    · refine r_aload_n 0 rfl dX11_arc_23 ?_
      refine r_iconst (v := 1) rfl dX11_arc_24 ?_
      refine r_Vf [.int _] dX11_arc_25 lk_X11_251 mb_X11_refused in_X11_refused se_X11_refused rfl (c_X11_refused) rfl rfl rfl (Nat.le_of_ble_eq_true rfl) (rfl) ?_
      exact r_iret hG dX11_arc_28 (⟨rfl, rfl, rfl, rfl⟩)
    · refine r_iload_n 2 rfl dX11_arc_13 ?_
      refine r_iconst (v := 0) rfl dX11_arc_14 ?_
      refine r_bipush (v := 6) rfl dX11_arc_15 ?_
      refine r_Sf [.int _, .int _, .int _] dX11_arc_17 lk_X11_138 mb_X11_in sc_X11_in rfl (c_X11_in) rfl (Nat.le_of_ble_eq_true rfl) (rfl) ?_
      refine r_ifne (tgt := 29) dX11_arc_20 (by decide) (fun zh20 => ?_) (fun zh20 => ?_)
      · exact absurd ⟨b2n.mp zh10, b2n.mp zh20⟩ hc
      · refine r_aload_n 0 rfl dX11_arc_23 ?_
        refine r_iconst (v := 1) rfl dX11_arc_24 ?_
        refine r_Vf [.int _] dX11_arc_25 lk_X11_251 mb_X11_refused in_X11_refused se_X11_refused rfl (c_X11_refused) rfl rfl rfl (Nat.le_of_ble_eq_true rfl) (rfl) ?_
        exact r_iret hG dX11_arc_28 (⟨rfl, rfl, rfl, rfl⟩)
set_option maxRecDepth 100000 in
theorem c_X11_gate (hM : x_Lay MR) {g : Nat} (hg : g ≤ 16) (hgr : MI 128 55 = nI g) {x y : Int32} : Cf X yX11_gate cX11_gate 3 (some .int) 2 [.ref 124, .int x, .int y] n SH MI ML MR (some (.int (rgAns (th MI) x y).1)) (rfM (th MI) (rgAns (th MI) x y).2) ML MR := by
  obtain ⟨V, hV⟩ : ∃ V, V = th MI := ⟨_, rfl⟩
  have hgV : V 128 55 = nI g := by rw [hV]; exact hgr
  have c55 : (55 : Int32).toNatClampNeg = 55 := rfl
  rw [← hV]
  by_cases hc : (¬ V 124 20 = 0 ∧ inR x (V 128 55) = true) ∧ inB y 0 1 = true
  · obtain ⟨k, hk, rfl⟩ : ∃ k, k < g ∧ x = nI k := by
      have h2 := hc.1.2
      rw [hgV] at h2
      have h3 := inR_t.mp h2
      exact inR_ex (by omega) h3.1 h3.2
    obtain ⟨j, hj, rfl⟩ := inB_ex (N := 1) (by decide) hc.2
    have e : (56 : Int32) + 2 * nI k + nI j = nI (56 + 2 * k + j) := by
      have h1 := pk_mul 2 k
      have h2 := nI_add 56 (2 * k)
      have h3 := nI_add (56 + 2 * k) j
      rw [← h2, ← h1] at h3
      exact h3
    have ck : (nI k).toNatClampNeg = k := nI_clamp (by omega)
    have cj : (nI j).toNatClampNeg = j := nI_clamp (by omega)
    have ha : rgAns V (nI k) (nI j) = (V 128 (56 + 2 * k + j), 0) := by unfold rgAns; rw [if_pos hc, ck, cj]
    rw [ha]
    have h3 := inR_t.mp hc.1.2
    refine Ct_of (by decide) (Nat.le_of_ble_eq_true rfl) (fun G hG => ?_)
    refine r_aload_n 0 rfl dX11_gate_0 ?_
    refine r_iconst (v := 0) rfl dX11_gate_1 ?_
    refine r_puti dX11_gate_2 fl_X11_3 rfl rfl rfl ?_
    refine r_mem hV.symm rfl rfl ?_
    refine r_aload_n 0 rfl dX11_gate_5 ?_
    refine r_geti dX11_gate_6 fl_X11_257 rfl ?_
    refine r_ifeq (tgt := 36) dX11_gate_9 (by decide) (fun zh9 => ?_) (fun zh9 => ?_)
    · exact absurd zh9 (hc.1.1)
    refine r_iload_n 1 rfl dX11_gate_12 ?_
    refine r_iflt (tgt := 36) dX11_gate_13 (by decide) (fun zh13 => ?_) (fun zh13 => ?_)
    · exact absurd zh13 (h3.1)
    refine r_iload_n 1 rfl dX11_gate_16 ?_
    refine r_aload_n 0 rfl dX11_gate_17 ?_
    refine r_getr dX11_gate_18 fl_X11_31 rfl (hM _ _ _ rfl) ?_
    refine r_bipush (v := 55) rfl dX11_gate_21 ?_
    refine r_iald dX11_gate_23 rfl (vpk (k := 55) (by decide) (by decide) rfl) ?_
    refine r_icmpge (tgt := 36) dX11_gate_24 (by decide) (fun zh24 => ?_) (fun zh24 => ?_)
    · exact absurd zh24 (h3.2)
    refine r_iload_n 2 rfl dX11_gate_27 ?_
    refine r_iconst (v := 0) rfl dX11_gate_28 ?_
    refine r_iconst (v := 1) rfl dX11_gate_29 ?_
    refine r_Sf [.int _, .int _, .int _] dX11_gate_30 lk_X11_138 mb_X11_in sc_X11_in rfl (c_X11_in) rfl (Nat.le_of_ble_eq_true rfl) (rfl) ?_
    refine r_ifne (tgt := 42) dX11_gate_33 (by decide) (fun zh33 => ?_) (fun zh33 => ?_)
    rotate_left
    · exact absurd zh33 (b2n.mpr hc.2)
    refine r_aload_n 0 rfl dX11_gate_42 ?_
    refine r_aload_n 0 rfl dX11_gate_43 ?_
    refine r_getr dX11_gate_44 fl_X11_31 rfl (hM _ _ _ rfl) ?_
    refine r_bipush (v := 56) rfl dX11_gate_47 ?_
    refine r_iconst (v := 2) rfl dX11_gate_49 ?_
    refine r_iload_n 1 rfl dX11_gate_50 ?_
    refine r_imul dX11_gate_51 ?_
    refine r_iadd dX11_gate_52 ?_
    refine r_iload_n 2 rfl dX11_gate_53 ?_
    refine r_iadd dX11_gate_54 ?_
    refine r_iald dX11_gate_55 rfl (by rw [e]; exact vp_in_nI (show 56 + 2 * k + j < 88 by omega) (by decide)) ?_
    refine r_Vf [.int _] dX11_gate_56 lk_X11_267 mb_X11_good in_X11_good se_X11_good rfl (c_X11_good) rfl rfl rfl (Nat.le_of_ble_eq_true rfl) (rfl) ?_
    exact r_iret hG dX11_gate_59 (by rw [e, nI_clamp (by omega)]; exact ⟨rfl, rfl, rfl, rfl⟩)
  · have ha : rgAns V x y = (-1, 1) := by unfold rgAns; rw [if_neg hc]
    rw [ha]
    refine Ct_of (by decide) (Nat.le_of_ble_eq_true rfl) (fun G hG => ?_)
    refine r_aload_n 0 rfl dX11_gate_0 ?_
    refine r_iconst (v := 0) rfl dX11_gate_1 ?_
    refine r_puti dX11_gate_2 fl_X11_3 rfl rfl rfl ?_
    refine r_mem hV.symm rfl rfl ?_
    refine r_aload_n 0 rfl dX11_gate_5 ?_
    refine r_geti dX11_gate_6 fl_X11_257 rfl ?_
    refine r_ifeq (tgt := 36) dX11_gate_9 (by decide) (fun zh9 => ?_) (fun zh9 => ?_)
    · refine r_aload_n 0 rfl dX11_gate_36 ?_
      refine r_iconst (v := 1) rfl dX11_gate_37 ?_
      refine r_Vf [.int _] dX11_gate_38 lk_X11_251 mb_X11_refused in_X11_refused se_X11_refused rfl (c_X11_refused) rfl rfl rfl (Nat.le_of_ble_eq_true rfl) (rfl) ?_
      exact r_iret hG dX11_gate_41 (⟨rfl, rfl, rfl, rfl⟩)
    · refine r_iload_n 1 rfl dX11_gate_12 ?_
      refine r_iflt (tgt := 36) dX11_gate_13 (by decide) (fun zh13 => ?_) (fun zh13 => ?_)
      · refine r_aload_n 0 rfl dX11_gate_36 ?_
        refine r_iconst (v := 1) rfl dX11_gate_37 ?_
        refine r_Vf [.int _] dX11_gate_38 lk_X11_251 mb_X11_refused in_X11_refused se_X11_refused rfl (c_X11_refused) rfl rfl rfl (Nat.le_of_ble_eq_true rfl) (rfl) ?_
        exact r_iret hG dX11_gate_41 (⟨rfl, rfl, rfl, rfl⟩)
      · refine r_iload_n 1 rfl dX11_gate_16 ?_
        refine r_aload_n 0 rfl dX11_gate_17 ?_
        refine r_getr dX11_gate_18 fl_X11_31 rfl (hM _ _ _ rfl) ?_
        refine r_bipush (v := 55) rfl dX11_gate_21 ?_
        refine r_iald dX11_gate_23 rfl (vpk (k := 55) (by decide) (by decide) rfl) ?_
        refine r_icmpge (tgt := 36) dX11_gate_24 (by decide) (fun zh24 => ?_) (fun zh24 => ?_)
        · refine r_aload_n 0 rfl dX11_gate_36 ?_
          refine r_iconst (v := 1) rfl dX11_gate_37 ?_
          refine r_Vf [.int _] dX11_gate_38 lk_X11_251 mb_X11_refused in_X11_refused se_X11_refused rfl (c_X11_refused) rfl rfl rfl (Nat.le_of_ble_eq_true rfl) (rfl) ?_
          exact r_iret hG dX11_gate_41 (⟨rfl, rfl, rfl, rfl⟩)
        · refine r_iload_n 2 rfl dX11_gate_27 ?_
          refine r_iconst (v := 0) rfl dX11_gate_28 ?_
          refine r_iconst (v := 1) rfl dX11_gate_29 ?_
          refine r_Sf [.int _, .int _, .int _] dX11_gate_30 lk_X11_138 mb_X11_in sc_X11_in rfl (c_X11_in) rfl (Nat.le_of_ble_eq_true rfl) (rfl) ?_
          refine r_ifne (tgt := 42) dX11_gate_33 (by decide) (fun zh33 => ?_) (fun zh33 => ?_)
          · exact absurd ⟨⟨zh9, inR_t.mpr ⟨zh13, zh24⟩⟩, b2n.mp zh33⟩ hc
          · refine r_aload_n 0 rfl dX11_gate_36 ?_
            refine r_iconst (v := 1) rfl dX11_gate_37 ?_
            refine r_Vf [.int _] dX11_gate_38 lk_X11_251 mb_X11_refused in_X11_refused se_X11_refused rfl (c_X11_refused) rfl rfl rfl (Nat.le_of_ble_eq_true rfl) (rfl) ?_
            exact r_iret hG dX11_gate_41 (⟨rfl, rfl, rfl, rfl⟩)
set_option maxRecDepth 100000 in
theorem c_X11_at (hM : x_Lay MR) {x y : Int32} : Cf X yX11_at cX11_at 4 (some .int) 4 [.ref 124, .int x, .int y] n SH MI ML MR (some (.int (rtAns (th MI) ML x y).1)) (rfM (th MI) (rtAns (th MI) ML x y).2) ML MR := by
  obtain ⟨V, hV⟩ : ∃ V, V = th MI := ⟨_, rfl⟩
  rw [← hV]
  by_cases h1 : rTr V x = 0
  · obtain ⟨f, hf, rfl⟩ := rTr_f h1
    have ck : (nI f).toNatClampNeg = f := nI_clamp (by omega)
    by_cases h2 : inB y 0 63 = true
    · have ha : rtAns V ML (nI f) y = ((if hasL (ML 137 f) y = true then 1 else if hasL (ML 138 f) y = true then 0 else 2), 0) := by unfold rtAns; rw [if_pos h1, if_pos h2, ck]
      rw [ha]
      refine Ct_of (by decide) (Nat.le_of_ble_eq_true rfl) (fun G hG => ?_)
      refine r_aload_n 0 rfl dX11_at_0 ?_
      refine r_iconst (v := 0) rfl dX11_at_1 ?_
      refine r_puti dX11_at_2 fl_X11_3 rfl rfl rfl ?_
      refine r_mem hV.symm rfl rfl ?_
      refine r_aload_n 0 rfl dX11_at_5 ?_
      refine r_iload_n 1 rfl dX11_at_6 ?_
      refine r_Vf [.int _] dX11_at_7 lk_X11_344 mb_X11_refuses in_X11_refuses se_X11_refuses rfl (c_X11_refuses) rfl rfl rfl (Nat.le_of_ble_eq_true rfl) (rfl) ?_
      refine r_istore_n (ls2 := [(3, .int (rTr V (nI f))), (0, .ref 124), (1, .int (nI f)), (2, .int y)]) dX11_at_10 (by decide) rfl ?_
      refine r_iload_n 0 rfl dX11_at_11 ?_
      refine r_ifne (tgt := 27) dX11_at_12 (by decide) (fun zh12 => ?_) (fun zh12 => ?_)
      · exact absurd zh12 (fun q => q h1)
      refine r_iload_n 3 rfl dX11_at_15 ?_
      refine r_iconst (v := 0) rfl dX11_at_16 ?_
      refine r_bipush (v := 63) rfl dX11_at_17 ?_
      refine r_Sf [.int _, .int _, .int _] dX11_at_19 lk_X11_138 mb_X11_in sc_X11_in rfl (c_X11_in) rfl (Nat.le_of_ble_eq_true rfl) (rfl) ?_
      refine r_ifne (tgt := 27) dX11_at_22 (by decide) (fun zh22 => ?_) (fun zh22 => ?_)
      rotate_left
      · exact absurd zh22 (b2n.mpr h2)
      refine r_iload_n 0 rfl dX11_at_27 ?_
      refine r_ifle (tgt := 37) dX11_at_28 (by decide) (fun zh28 => ?_) (fun zh28 => ?_)
      rotate_left
      · exact absurd zh28 (fun q => q (by rw [h1]; exact Int32.le_refl 0))
      refine r_aload_n 1 rfl dX11_at_37 ?_
      refine r_aload_n 1 rfl dX11_at_38 ?_
      refine r_getr dX11_at_39 fl_X11_59 rfl (hM _ _ _ rfl) ?_
      refine r_iload_n 2 rfl dX11_at_42 ?_
      refine r_lald dX11_at_43 rfl (vp_in_nI hf (by decide)) ?_
      refine r_iload_n 3 rfl dX11_at_44 ?_
      refine r_Sf [.long _, .int _] dX11_at_45 lk_X11_347 mb_X11_has sc_X11_has rfl (c_X11_has) rfl (Nat.le_of_ble_eq_true rfl) (rfl) ?_
      refine r_ifeq (tgt := 55) dX11_at_48 (by decide) (fun zh48 => ?_) (fun zh48 => ?_)
      · refine r_aload_n 1 rfl dX11_at_55 ?_
        refine r_getr dX11_at_56 fl_X11_62 rfl (hM _ _ _ rfl) ?_
        refine r_iload_n 2 rfl dX11_at_59 ?_
        refine r_lald dX11_at_60 rfl (vp_in_nI hf (by decide)) ?_
        refine r_iload_n 3 rfl dX11_at_61 ?_
        refine r_Sf [.long _, .int _] dX11_at_62 lk_X11_347 mb_X11_has sc_X11_has rfl (c_X11_has) rfl (Nat.le_of_ble_eq_true rfl) (rfl) ?_
        refine r_ifeq (tgt := 72) dX11_at_65 (by decide) (fun zh65 => ?_) (fun zh65 => ?_)
        · refine r_iconst (v := 2) rfl dX11_at_72 ?_
          refine r_Vf [.int _] dX11_at_73 lk_X11_267 mb_X11_good in_X11_good se_X11_good rfl (c_X11_good) rfl rfl rfl (Nat.le_of_ble_eq_true rfl) (rfl) ?_
          exact r_iret hG dX11_at_76 (by
              rw [ck] at zh48
              first
                | (have za : hasL (ML 137 f) y = true := b2n.mp zh48
                   rw [if_pos za]; exact ⟨rfl, rfl, rfl, rfl⟩)
                | (have za : ¬ hasL (ML 137 f) y = true := by rw [b2z.mp zh48]; decide
                   rw [ck] at zh65
                   have zb : hasL (ML 138 f) y = true := b2n.mp zh65
                   rw [if_neg za, if_pos zb]; exact ⟨rfl, rfl, rfl, rfl⟩)
                | (have za : ¬ hasL (ML 137 f) y = true := by rw [b2z.mp zh48]; decide
                   rw [ck] at zh65
                   have zb : ¬ hasL (ML 138 f) y = true := by rw [b2z.mp zh65]; decide
                   rw [if_neg za, if_neg zb]; exact ⟨rfl, rfl, rfl, rfl⟩))
        · refine r_iconst (v := 0) rfl dX11_at_68 ?_
          refine r_goto (tgt := 73) dX11_at_69 (by decide) ?_
          refine r_Vf [.int _] dX11_at_73 lk_X11_267 mb_X11_good in_X11_good se_X11_good rfl (c_X11_good) rfl rfl rfl (Nat.le_of_ble_eq_true rfl) (rfl) ?_
          exact r_iret hG dX11_at_76 (by
              rw [ck] at zh48
              first
                | (have za : hasL (ML 137 f) y = true := b2n.mp zh48
                   rw [if_pos za]; exact ⟨rfl, rfl, rfl, rfl⟩)
                | (have za : ¬ hasL (ML 137 f) y = true := by rw [b2z.mp zh48]; decide
                   rw [ck] at zh65
                   have zb : hasL (ML 138 f) y = true := b2n.mp zh65
                   rw [if_neg za, if_pos zb]; exact ⟨rfl, rfl, rfl, rfl⟩)
                | (have za : ¬ hasL (ML 137 f) y = true := by rw [b2z.mp zh48]; decide
                   rw [ck] at zh65
                   have zb : ¬ hasL (ML 138 f) y = true := by rw [b2z.mp zh65]; decide
                   rw [if_neg za, if_neg zb]; exact ⟨rfl, rfl, rfl, rfl⟩))
      · refine r_iconst (v := 1) rfl dX11_at_51 ?_
        refine r_goto (tgt := 73) dX11_at_52 (by decide) ?_
        refine r_Vf [.int _] dX11_at_73 lk_X11_267 mb_X11_good in_X11_good se_X11_good rfl (c_X11_good) rfl rfl rfl (Nat.le_of_ble_eq_true rfl) (rfl) ?_
        exact r_iret hG dX11_at_76 (by
            rw [ck] at zh48
            first
              | (have za : hasL (ML 137 f) y = true := b2n.mp zh48
                 rw [if_pos za]; exact ⟨rfl, rfl, rfl, rfl⟩)
              | (have za : ¬ hasL (ML 137 f) y = true := by rw [b2z.mp zh48]; decide
                 rw [ck] at zh65
                 have zb : hasL (ML 138 f) y = true := b2n.mp zh65
                 rw [if_neg za, if_pos zb]; exact ⟨rfl, rfl, rfl, rfl⟩)
              | (have za : ¬ hasL (ML 137 f) y = true := by rw [b2z.mp zh48]; decide
                 rw [ck] at zh65
                 have zb : ¬ hasL (ML 138 f) y = true := by rw [b2z.mp zh65]; decide
                 rw [if_neg za, if_neg zb]; exact ⟨rfl, rfl, rfl, rfl⟩))
    · have ha : rtAns V ML (nI f) y = (-1, 2) := by unfold rtAns; rw [if_pos h1, if_neg h2]
      rw [ha]
      refine Ct_of (by decide) (Nat.le_of_ble_eq_true rfl) (fun G hG => ?_)
      refine r_aload_n 0 rfl dX11_at_0 ?_
      refine r_iconst (v := 0) rfl dX11_at_1 ?_
      refine r_puti dX11_at_2 fl_X11_3 rfl rfl rfl ?_
      refine r_mem hV.symm rfl rfl ?_
      refine r_aload_n 0 rfl dX11_at_5 ?_
      refine r_iload_n 1 rfl dX11_at_6 ?_
      refine r_Vf [.int _] dX11_at_7 lk_X11_344 mb_X11_refuses in_X11_refuses se_X11_refuses rfl (c_X11_refuses) rfl rfl rfl (Nat.le_of_ble_eq_true rfl) (rfl) ?_
      refine r_istore_n (ls2 := [(3, .int (rTr V (nI f))), (0, .ref 124), (1, .int (nI f)), (2, .int y)]) dX11_at_10 (by decide) rfl ?_
      refine r_iload_n 0 rfl dX11_at_11 ?_
      refine r_ifne (tgt := 27) dX11_at_12 (by decide) (fun zh12 => ?_) (fun zh12 => ?_)
      · exact absurd zh12 (fun q => q h1)
      refine r_iload_n 3 rfl dX11_at_15 ?_
      refine r_iconst (v := 0) rfl dX11_at_16 ?_
      refine r_bipush (v := 63) rfl dX11_at_17 ?_
      refine r_Sf [.int _, .int _, .int _] dX11_at_19 lk_X11_138 mb_X11_in sc_X11_in rfl (c_X11_in) rfl (Nat.le_of_ble_eq_true rfl) (rfl) ?_
      refine r_ifne (tgt := 27) dX11_at_22 (by decide) (fun zh22 => ?_) (fun zh22 => ?_)
      · exact absurd zh22 (fun q => h2 (b2n.mp q))
      refine r_iconst (v := 2) rfl dX11_at_25 ?_
      refine r_istore_n (ls2 := [(3, .int 2), (0, .ref 124), (1, .int (nI f)), (2, .int y)]) dX11_at_26 (by decide) rfl ?_
      refine r_iload_n 0 rfl dX11_at_27 ?_
      refine r_ifle (tgt := 37) dX11_at_28 (by decide) (fun zh28 => ?_) (fun zh28 => ?_)
      · exact absurd zh28 (by decide)
      refine r_aload_n 1 rfl dX11_at_31 ?_
      refine r_iload_n 0 rfl dX11_at_32 ?_
      refine r_Vf [.int _] dX11_at_33 lk_X11_251 mb_X11_refused in_X11_refused se_X11_refused rfl (c_X11_refused) rfl rfl rfl (Nat.le_of_ble_eq_true rfl) (rfl) ?_
      exact r_iret hG dX11_at_36 (⟨rfl, rfl, rfl, rfl⟩)
  · have hp : 0 < rTr V x := rTr_0.resolve_left h1
    have ha : rtAns V ML x y = (-1, rTr V x) := by unfold rtAns; rw [if_neg h1]
    rw [ha]
    refine Ct_of (by decide) (Nat.le_of_ble_eq_true rfl) (fun G hG => ?_)
    refine r_aload_n 0 rfl dX11_at_0 ?_
    refine r_iconst (v := 0) rfl dX11_at_1 ?_
    refine r_puti dX11_at_2 fl_X11_3 rfl rfl rfl ?_
    refine r_mem hV.symm rfl rfl ?_
    refine r_aload_n 0 rfl dX11_at_5 ?_
    refine r_iload_n 1 rfl dX11_at_6 ?_
    refine r_Vf [.int _] dX11_at_7 lk_X11_344 mb_X11_refuses in_X11_refuses se_X11_refuses rfl (c_X11_refuses) rfl rfl rfl (Nat.le_of_ble_eq_true rfl) (rfl) ?_
    refine r_istore_n (ls2 := [(3, .int (rTr V x)), (0, .ref 124), (1, .int x), (2, .int y)]) dX11_at_10 (by decide) rfl ?_
    refine r_iload_n 0 rfl dX11_at_11 ?_
    refine r_ifne (tgt := 27) dX11_at_12 (by decide) (fun zh12 => ?_) (fun zh12 => ?_)
    rotate_left
    · exact absurd zh12 (fun q => h1 q)
    refine r_iload_n 0 rfl dX11_at_27 ?_
    refine r_ifle (tgt := 37) dX11_at_28 (by decide) (fun zh28 => ?_) (fun zh28 => ?_)
    · exact absurd zh28 (Int32.not_le.mpr hp)
    refine r_aload_n 1 rfl dX11_at_31 ?_
    refine r_iload_n 0 rfl dX11_at_32 ?_
    refine r_Vf [.int _] dX11_at_33 lk_X11_251 mb_X11_refused in_X11_refused se_X11_refused rfl (c_X11_refused) rfl rfl rfl (Nat.le_of_ble_eq_true rfl) (rfl) ?_
    exact r_iret hG dX11_at_36 (⟨rfl, rfl, rfl, rfl⟩)
set_option maxRecDepth 100000 in
theorem c_X11_many {p : Int64} : Cf X yX11_many cX11_many 4 (some .int) 2 [.long p] n SH MI ML MR (some (.int (mnV p 64))) MI ML MR := by
  refine Ct_of (by decide) (Nat.le_of_ble_eq_true rfl) (fun G hG => ?_)
  have loop : ∀ i, i ≤ 64 → RW X G RX11 cX11_many 4 (x_rm 2 0 0) n SH MI ML MR 0 0 4 [(3, .int (nI i)), (2, .int (mnV p i)), (0, .long p)] [] := by
    refine bwd (fun i hi ih => ?_)
    refine r_iload_n 0 rfl dX11_many_4 ?_
    refine r_bipush (v := 64) rfl dX11_many_5 ?_
    refine r_icmpge (tgt := 32) dX11_many_7 (by decide) (fun zh7 => ?_) (fun zh7 => ?_)
    · obtain rfl : i = 64 := by have := geL (k := 64) (by decide) (by omega) zh7; omega
      refine r_iload_n 1 rfl dX11_many_32 ?_
      exact r_iret hG dX11_many_33 (⟨rfl, rfl, rfl, rfl⟩)
    · have hlt : i < 64 := ltL (by omega) zh7
      refine r_iload_n 1 rfl dX11_many_10 ?_
      refine r_lload_n 2 rfl dX11_many_11 ?_
      refine r_iload_n 0 rfl dX11_many_12 ?_
      refine r_Sf [.long _, .int _] dX11_many_13 lk_X11_347 mb_X11_has sc_X11_has rfl (c_X11_has) rfl (Nat.le_of_ble_eq_true rfl) (rfl) ?_
      refine r_ifeq (tgt := 23) dX11_many_16 (by decide) (fun zh16 => ?_) (fun zh16 => ?_)
      · refine r_iconst (v := 0) rfl dX11_many_23 ?_
        refine r_iadd dX11_many_24 ?_
        refine r_nmi (fun zv25 ze25 => ?_)
        refine r_istore_n (ls2 := [(2, .int zv25), (3, .int (nI i)), (0, .long p)]) dX11_many_25 (by decide) rfl ?_
        refine r_iinc (v := (nI (i + 1))) (ls2 := [(3, .int (nI (i + 1))), (2, .int zv25), (0, .long p)]) 1 dX11_many_26 rfl (x_inc i) (by decide) rfl ?_
        refine r_goto (tgt := 4) dX11_many_29 (by decide) ?_
        obtain rfl : zv25 = mnV p (i + 1) := by rw [ze25, mnV]; first | (rw [b2z.mp zh16]; rfl) | (rw [b2n.mp zh16]; rfl)
        exact r_sub [0, 1, 2] rfl (ih hlt)
      · refine r_iconst (v := 1) rfl dX11_many_19 ?_
        refine r_goto (tgt := 24) dX11_many_20 (by decide) ?_
        refine r_iadd dX11_many_24 ?_
        refine r_nmi (fun zv25 ze25 => ?_)
        refine r_istore_n (ls2 := [(2, .int zv25), (3, .int (nI i)), (0, .long p)]) dX11_many_25 (by decide) rfl ?_
        refine r_iinc (v := (nI (i + 1))) (ls2 := [(3, .int (nI (i + 1))), (2, .int zv25), (0, .long p)]) 1 dX11_many_26 rfl (x_inc i) (by decide) rfl ?_
        refine r_goto (tgt := 4) dX11_many_29 (by decide) ?_
        obtain rfl : zv25 = mnV p (i + 1) := by rw [ze25, mnV]; first | (rw [b2z.mp zh16]; rfl) | (rw [b2n.mp zh16]; rfl)
        exact r_sub [0, 1, 2] rfl (ih hlt)
  refine r_iconst (v := 0) rfl dX11_many_0 ?_
  refine r_istore_n (ls2 := [(2, .int 0), (0, .long p)]) dX11_many_1 (by decide) rfl ?_
  refine r_iconst (v := 0) rfl dX11_many_2 ?_
  refine r_istore_n (ls2 := [(3, .int 0), (2, .int 0), (0, .long p)]) dX11_many_3 (by decide) rfl ?_
  exact r_sub [0, 1, 2] rfl (loop 0 (by decide))
set_option maxRecDepth 100000 in
theorem c_X11_points (hM : x_Lay MR) {x y : Int32} : Cf X yX11_points cX11_points 4 (some .int) 4 [.ref 124, .int x, .int y] n SH MI ML MR (some (.int (rpAns (th MI) ML x y).1)) (rfM (th MI) (rpAns (th MI) ML x y).2) ML MR := by
  obtain ⟨V, hV⟩ : ∃ V, V = th MI := ⟨_, rfl⟩
  rw [← hV]
  by_cases h1 : rTr V x = 0
  · obtain ⟨f, hf, rfl⟩ := rTr_f h1
    have ck : (nI f).toNatClampNeg = f := nI_clamp (by omega)
    by_cases h2 : inB y 0 2 = true
    · have ha : rpAns V ML (nI f) y = ((if y = 1 then mnV (ML 137 f) 64 else if y = 0 then mnV (ML 138 f) 64 else 64 - mnV (ML 137 f ||| ML 138 f) 64), 0) := by unfold rpAns; rw [if_pos h1, if_pos h2, ck]
      rw [ha]
      refine Ct_of (by decide) (Nat.le_of_ble_eq_true rfl) (fun G hG => ?_)
      refine r_aload_n 0 rfl dX11_points_0 ?_
      refine r_iconst (v := 0) rfl dX11_points_1 ?_
      refine r_puti dX11_points_2 fl_X11_3 rfl rfl rfl ?_
      refine r_mem hV.symm rfl rfl ?_
      refine r_aload_n 0 rfl dX11_points_5 ?_
      refine r_iload_n 1 rfl dX11_points_6 ?_
      refine r_Vf [.int _] dX11_points_7 lk_X11_344 mb_X11_refuses in_X11_refuses se_X11_refuses rfl (c_X11_refuses) rfl rfl rfl (Nat.le_of_ble_eq_true rfl) (rfl) ?_
      refine r_istore_n (ls2 := [(3, .int (rTr V (nI f))), (0, .ref 124), (1, .int (nI f)), (2, .int y)]) dX11_points_10 (by decide) rfl ?_
      refine r_iload_n 0 rfl dX11_points_11 ?_
      refine r_ifne (tgt := 26) dX11_points_12 (by decide) (fun zh12 => ?_) (fun zh12 => ?_)
      · exact absurd zh12 (fun q => q h1)
      refine r_iload_n 3 rfl dX11_points_15 ?_
      refine r_iconst (v := 0) rfl dX11_points_16 ?_
      refine r_iconst (v := 2) rfl dX11_points_17 ?_
      refine r_Sf [.int _, .int _, .int _] dX11_points_18 lk_X11_138 mb_X11_in sc_X11_in rfl (c_X11_in) rfl (Nat.le_of_ble_eq_true rfl) (rfl) ?_
      refine r_ifne (tgt := 26) dX11_points_21 (by decide) (fun zh21 => ?_) (fun zh21 => ?_)
      rotate_left
      · exact absurd zh21 (b2n.mpr h2)
      refine r_iload_n 0 rfl dX11_points_26 ?_
      refine r_ifle (tgt := 36) dX11_points_27 (by decide) (fun zh27 => ?_) (fun zh27 => ?_)
      rotate_left
      · exact absurd zh27 (fun q => q (by rw [h1]; exact Int32.le_refl 0))
      refine r_aload_n 1 rfl dX11_points_36 ?_
      refine r_iload_n 3 rfl dX11_points_37 ?_
      refine r_iconst (v := 1) rfl dX11_points_38 ?_
      refine r_icmpne (tgt := 54) dX11_points_39 (by decide) (fun zh39 => ?_) (fun zh39 => ?_)
      · refine r_iload_n 3 rfl dX11_points_54 ?_
        refine r_ifne (tgt := 70) dX11_points_55 (by decide) (fun zh55 => ?_) (fun zh55 => ?_)
        · refine r_bipush (v := 64) rfl dX11_points_70 ?_
          refine r_aload_n 1 rfl dX11_points_72 ?_
          refine r_getr dX11_points_73 fl_X11_59 rfl (hM _ _ _ rfl) ?_
          refine r_iload_n 2 rfl dX11_points_76 ?_
          refine r_lald dX11_points_77 rfl (vp_in_nI hf (by decide)) ?_
          refine r_aload_n 1 rfl dX11_points_78 ?_
          refine r_getr dX11_points_79 fl_X11_62 rfl (hM _ _ _ rfl) ?_
          refine r_iload_n 2 rfl dX11_points_82 ?_
          refine r_lald dX11_points_83 rfl (vp_in_nI hf (by decide)) ?_
          refine r_lor dX11_points_84 ?_
          refine r_Sf [.long _] dX11_points_85 lk_X11_351 mb_X11_many sc_X11_many rfl (c_X11_many) rfl (Nat.le_of_ble_eq_true rfl) (rfl) ?_
          refine r_isub dX11_points_88 ?_
          refine r_Vf [.int _] dX11_points_89 lk_X11_267 mb_X11_good in_X11_good se_X11_good rfl (c_X11_good) rfl rfl rfl (Nat.le_of_ble_eq_true rfl) (rfl) ?_
          exact r_iret hG dX11_points_92 (by
              rw [ck]
              first
                | (rw [if_pos zh39]; exact ⟨rfl, rfl, rfl, rfl⟩)
                | (rw [if_neg zh39, if_pos zh55]; exact ⟨rfl, rfl, rfl, rfl⟩)
                | (rw [if_neg zh39, if_neg zh55]; exact ⟨rfl, rfl, rfl, rfl⟩))
        · refine r_aload_n 1 rfl dX11_points_58 ?_
          refine r_getr dX11_points_59 fl_X11_62 rfl (hM _ _ _ rfl) ?_
          refine r_iload_n 2 rfl dX11_points_62 ?_
          refine r_lald dX11_points_63 rfl (vp_in_nI hf (by decide)) ?_
          refine r_Sf [.long _] dX11_points_64 lk_X11_351 mb_X11_many sc_X11_many rfl (c_X11_many) rfl (Nat.le_of_ble_eq_true rfl) (rfl) ?_
          refine r_goto (tgt := 89) dX11_points_67 (by decide) ?_
          refine r_Vf [.int _] dX11_points_89 lk_X11_267 mb_X11_good in_X11_good se_X11_good rfl (c_X11_good) rfl rfl rfl (Nat.le_of_ble_eq_true rfl) (rfl) ?_
          exact r_iret hG dX11_points_92 (by
              rw [ck]
              first
                | (rw [if_pos zh39]; exact ⟨rfl, rfl, rfl, rfl⟩)
                | (rw [if_neg zh39, if_pos zh55]; exact ⟨rfl, rfl, rfl, rfl⟩)
                | (rw [if_neg zh39, if_neg zh55]; exact ⟨rfl, rfl, rfl, rfl⟩))
      · refine r_aload_n 1 rfl dX11_points_42 ?_
        refine r_getr dX11_points_43 fl_X11_59 rfl (hM _ _ _ rfl) ?_
        refine r_iload_n 2 rfl dX11_points_46 ?_
        refine r_lald dX11_points_47 rfl (vp_in_nI hf (by decide)) ?_
        refine r_Sf [.long _] dX11_points_48 lk_X11_351 mb_X11_many sc_X11_many rfl (c_X11_many) rfl (Nat.le_of_ble_eq_true rfl) (rfl) ?_
        refine r_goto (tgt := 89) dX11_points_51 (by decide) ?_
        refine r_Vf [.int _] dX11_points_89 lk_X11_267 mb_X11_good in_X11_good se_X11_good rfl (c_X11_good) rfl rfl rfl (Nat.le_of_ble_eq_true rfl) (rfl) ?_
        exact r_iret hG dX11_points_92 (by
            rw [ck]
            first
              | (rw [if_pos zh39]; exact ⟨rfl, rfl, rfl, rfl⟩)
              | (rw [if_neg zh39, if_pos zh55]; exact ⟨rfl, rfl, rfl, rfl⟩)
              | (rw [if_neg zh39, if_neg zh55]; exact ⟨rfl, rfl, rfl, rfl⟩))
    · have ha : rpAns V ML (nI f) y = (-1, 2) := by unfold rpAns; rw [if_pos h1, if_neg h2]
      rw [ha]
      refine Ct_of (by decide) (Nat.le_of_ble_eq_true rfl) (fun G hG => ?_)
      refine r_aload_n 0 rfl dX11_points_0 ?_
      refine r_iconst (v := 0) rfl dX11_points_1 ?_
      refine r_puti dX11_points_2 fl_X11_3 rfl rfl rfl ?_
      refine r_mem hV.symm rfl rfl ?_
      refine r_aload_n 0 rfl dX11_points_5 ?_
      refine r_iload_n 1 rfl dX11_points_6 ?_
      refine r_Vf [.int _] dX11_points_7 lk_X11_344 mb_X11_refuses in_X11_refuses se_X11_refuses rfl (c_X11_refuses) rfl rfl rfl (Nat.le_of_ble_eq_true rfl) (rfl) ?_
      refine r_istore_n (ls2 := [(3, .int (rTr V (nI f))), (0, .ref 124), (1, .int (nI f)), (2, .int y)]) dX11_points_10 (by decide) rfl ?_
      refine r_iload_n 0 rfl dX11_points_11 ?_
      refine r_ifne (tgt := 26) dX11_points_12 (by decide) (fun zh12 => ?_) (fun zh12 => ?_)
      · exact absurd zh12 (fun q => q h1)
      refine r_iload_n 3 rfl dX11_points_15 ?_
      refine r_iconst (v := 0) rfl dX11_points_16 ?_
      refine r_iconst (v := 2) rfl dX11_points_17 ?_
      refine r_Sf [.int _, .int _, .int _] dX11_points_18 lk_X11_138 mb_X11_in sc_X11_in rfl (c_X11_in) rfl (Nat.le_of_ble_eq_true rfl) (rfl) ?_
      refine r_ifne (tgt := 26) dX11_points_21 (by decide) (fun zh21 => ?_) (fun zh21 => ?_)
      · exact absurd zh21 (fun q => h2 (b2n.mp q))
      refine r_iconst (v := 2) rfl dX11_points_24 ?_
      refine r_istore_n (ls2 := [(3, .int 2), (0, .ref 124), (1, .int (nI f)), (2, .int y)]) dX11_points_25 (by decide) rfl ?_
      refine r_iload_n 0 rfl dX11_points_26 ?_
      refine r_ifle (tgt := 36) dX11_points_27 (by decide) (fun zh27 => ?_) (fun zh27 => ?_)
      · exact absurd zh27 (by decide)
      refine r_aload_n 1 rfl dX11_points_30 ?_
      refine r_iload_n 0 rfl dX11_points_31 ?_
      refine r_Vf [.int _] dX11_points_32 lk_X11_251 mb_X11_refused in_X11_refused se_X11_refused rfl (c_X11_refused) rfl rfl rfl (Nat.le_of_ble_eq_true rfl) (rfl) ?_
      exact r_iret hG dX11_points_35 (⟨rfl, rfl, rfl, rfl⟩)
  · have hp : 0 < rTr V x := rTr_0.resolve_left h1
    have ha : rpAns V ML x y = (-1, rTr V x) := by unfold rpAns; rw [if_neg h1]
    rw [ha]
    refine Ct_of (by decide) (Nat.le_of_ble_eq_true rfl) (fun G hG => ?_)
    refine r_aload_n 0 rfl dX11_points_0 ?_
    refine r_iconst (v := 0) rfl dX11_points_1 ?_
    refine r_puti dX11_points_2 fl_X11_3 rfl rfl rfl ?_
    refine r_mem hV.symm rfl rfl ?_
    refine r_aload_n 0 rfl dX11_points_5 ?_
    refine r_iload_n 1 rfl dX11_points_6 ?_
    refine r_Vf [.int _] dX11_points_7 lk_X11_344 mb_X11_refuses in_X11_refuses se_X11_refuses rfl (c_X11_refuses) rfl rfl rfl (Nat.le_of_ble_eq_true rfl) (rfl) ?_
    refine r_istore_n (ls2 := [(3, .int (rTr V x)), (0, .ref 124), (1, .int x), (2, .int y)]) dX11_points_10 (by decide) rfl ?_
    refine r_iload_n 0 rfl dX11_points_11 ?_
    refine r_ifne (tgt := 26) dX11_points_12 (by decide) (fun zh12 => ?_) (fun zh12 => ?_)
    rotate_left
    · exact absurd zh12 (fun q => h1 q)
    refine r_iload_n 0 rfl dX11_points_26 ?_
    refine r_ifle (tgt := 36) dX11_points_27 (by decide) (fun zh27 => ?_) (fun zh27 => ?_)
    · exact absurd zh27 (Int32.not_le.mpr hp)
    refine r_aload_n 1 rfl dX11_points_30 ?_
    refine r_iload_n 0 rfl dX11_points_31 ?_
    refine r_Vf [.int _] dX11_points_32 lk_X11_251 mb_X11_refused in_X11_refused se_X11_refused rfl (c_X11_refused) rfl rfl rfl (Nat.le_of_ble_eq_true rfl) (rfl) ?_
    exact r_iret hG dX11_points_35 (⟨rfl, rfl, rfl, rfl⟩)
end rcalls

/-! the reference: products, runs -/
def pdS (c d : Nat) : Nat → Nat
  | 0 => 1
  | k + 1 => if pdS c d k = 0 then 0 else if dgt c k = 2 then pdS c d k else if dgt d k = 2 then 2 else if dgt d k = dgt c k then pdS c d k else 0
theorem pdS_lt (c d : Nat) : ∀ k, pdS c d k < 3 := by
  intro k
  induction k with
  | zero => exact (by decide : (1 : Nat) < 3)
  | succ k ih =>
    rw [pdS]
    split
    · decide
    · split
      · exact ih
      · split
        · decide
        · split
          · exact ih
          · decide
theorem pdS_0 (c d : Nat) : ∀ e k, pdS c d k = 0 → pdS c d (k + e) = 0 := by
  intro e
  induction e with
  | zero => intro k h; exact h
  | succ e ih => intro k h; rw [show k + (e + 1) = (k + e) + 1 by omega, pdS, if_pos (ih k h)]
def eiN (a b : Nat) : Nat := if a = 1 ∨ b = 1 then 1 else if b < a then a else b
theorem eiN_lt {a b : Nat} (ha : a < 3) (hb : b < 3) : eiN a b < 3 := by
  unfold eiN
  split
  · decide
  · split <;> omega
def gcN (V : Mi) (j : Nat) : Nat := (V 128 (57 + 2 * j)).toNatClampNeg
def gOK (V : Mi) (g : Nat) : Prop := g ≤ 16 ∧ V 128 55 = nI g ∧ ∀ j, j < g → V 128 (57 + 2 * j) = nI (gcN V j) ∧ gcN V j < 729
def rgS (V : Mi) (x : Int32) (d : Nat) : Nat → Nat
  | 0 => 0
  | j + 1 => if V 128 (56 + 2 * j) = x then eiN (rgS V x d j) (pdS (gcN V j) d 6) else rgS V x d j
theorem rgS_lt (V : Mi) (x : Int32) (d : Nat) : ∀ k, rgS V x d k < 3 := by
  intro k
  induction k with
  | zero => exact (by decide : (0 : Nat) < 3)
  | succ k ih =>
    rw [rgS]
    split
    · exact eiN_lt ih (pdS_lt _ _ _)
    · exact ih
def rcS (cc : Nat → Nat) (d : Nat) : Nat → Nat
  | 0 => 0
  | k + 1 => eiN (rcS cc d k) (pdS (cc k) d 6)
theorem rcS_lt (cc : Nat → Nat) (d : Nat) : ∀ k, rcS cc d k < 3 := by
  intro k
  induction k with
  | zero => exact (by decide : (0 : Nat) < 3)
  | succ k ih => rw [rcS]; exact eiN_lt ih (pdS_lt _ _ _)
def lgP (V : Mi) (B : Nat → Nat → Int64) (x : Int32) (c j : Nat) : Bool := decide (V 128 (56 + 2 * j) = x) && decide (B 125 c &&& (B 125 (gcN V j) ^^^ -1) = 0)
section rruns
variable {X : xG} {n : Nat} {MI : Nat → Nat → Int32} {ML : Nat → Nat → Int64} {MR : Nat → Nat → Option Nat}
set_option maxRecDepth 100000 in
theorem c_X11_product (hM : x_Lay MR) (hmu : muOK MI) {c d : Nat} (hc : c < 729) (hd : d < 729) : Cf X yX11_product cX11_product 7 (some .int) 1 [.ref 124, .int (nI c), .int (nI d)] n SH MI ML MR (some (.int (nI (pdS c d 6)))) MI ML MR := by
  refine Ct_of (by decide) (Nat.le_of_ble_eq_true rfl) (fun G hG => ?_)
  have loop : ∀ i, i ≤ 6 → RW X G RX11 cX11_product 7 (x_rm 1 0 0) n SH MI ML MR 0 0 5 [(4, .int (nI i)), (3, .int (nI (pdS c d i))), (0, .ref 124), (1, .int (nI c)), (2, .int (nI d))] [] := by
    refine bwd (fun i hi ih => ?_)
    have h1 := dgt_lt c i
    have h2 := dgt_lt d i
    have h3 := pdS_lt c d i
    have eix : ∀ c, (6 : Int32) * nI c + nI i = nI (6 * c + i) := fun c => by
      have h1 := pk_mul 6 c
      have h2 := nI_add (6 * c) i
      rw [← h1] at h2
      exact h2
    refine r_iload 0 rfl dX11_product_5 ?_
    refine r_bipush (v := 6) rfl dX11_product_7 ?_
    refine r_icmpge (tgt := 82) dX11_product_9 (by decide) (fun zh9 => ?_) (fun zh9 => ?_)
    · refine r_iload_n 1 rfl dX11_product_82 ?_
      exact r_iret hG dX11_product_83 (by
          refine ⟨?_, rfl, rfl, rfl⟩
          first
            | (have z6 : 6 ≤ i := geL (k := 6) (by decide) (by omega) zh9
               have z7 : i = 6 := Nat.le_antisymm hi z6
               rw [z7])
            | (have z0 : pdS c d i = 0 := Nat.eq_zero_of_not_pos fun z => absurd zh13 (Int32.not_le.mpr (nI_lt z (by omega)))
               have z6 := pdS_0 c d (6 - i) i z0
               rw [show i + (6 - i) = 6 by omega] at z6
               rw [z0, z6]))
    · have hlt : i < 6 := ltL (by omega) zh9
      refine r_iload_n 1 rfl dX11_product_12 ?_
      refine r_ifle (tgt := 82) dX11_product_13 (by decide) (fun zh13 => ?_) (fun zh13 => ?_)
      · refine r_iload_n 1 rfl dX11_product_82 ?_
        exact r_iret hG dX11_product_83 (by
            refine ⟨?_, rfl, rfl, rfl⟩
            first
              | (have z6 : 6 ≤ i := geL (k := 6) (by decide) (by omega) zh9
                 have z7 : i = 6 := Nat.le_antisymm hi z6
                 rw [z7])
              | (have z0 : pdS c d i = 0 := Nat.eq_zero_of_not_pos fun z => absurd zh13 (Int32.not_le.mpr (nI_lt z (by omega)))
                 have z6 := pdS_0 c d (6 - i) i z0
                 rw [show i + (6 - i) = 6 by omega] at z6
                 rw [z0, z6]))
      · have zp : ¬ pdS c d i = 0 := fun z => zh13 (by rw [z]; exact Int32.le_refl 0)
        refine r_aload_n 2 rfl dX11_product_16 ?_
        refine r_getr dX11_product_17 fl_X11_23 rfl (hM _ _ _ rfl) ?_
        refine r_bipush (v := 6) rfl dX11_product_20 ?_
        refine r_iload_n 3 rfl dX11_product_22 ?_
        refine r_imul dX11_product_23 ?_
        refine r_iload 0 rfl dX11_product_24 ?_
        refine r_iadd dX11_product_26 ?_
        refine r_iald dX11_product_27 rfl (by rw [eix]; exact vp_in_nI (show 6 * c + i < 4374 by omega) (by decide)) ?_
        rw [eix, nI_clamp (by omega), hmu c i hc hlt]
        refine r_nmi (fun zv28 ze28 => ?_)
        refine r_istore (ls2 := [(5, .int zv28), (4, .int (nI i)), (3, .int (nI (pdS c d i))), (0, .ref 124), (1, .int (nI c)), (2, .int (nI d))]) dX11_product_28 (by decide) rfl ?_
        refine r_aload_n 3 rfl dX11_product_30 ?_
        refine r_getr dX11_product_31 fl_X11_23 rfl (hM _ _ _ rfl) ?_
        refine r_bipush (v := 6) rfl dX11_product_34 ?_
        refine r_iload_n 5 rfl dX11_product_36 ?_
        refine r_imul dX11_product_37 ?_
        refine r_iload 1 rfl dX11_product_38 ?_
        refine r_iadd dX11_product_40 ?_
        refine r_iald dX11_product_41 rfl (by rw [eix]; exact vp_in_nI (show 6 * d + i < 4374 by omega) (by decide)) ?_
        rw [eix, nI_clamp (by omega), hmu d i hd hlt]
        refine r_nmi (fun zv42 ze42 => ?_)
        refine r_istore (ls2 := [(6, .int zv42), (5, .int zv28), (4, .int (nI i)), (3, .int (nI (pdS c d i))), (0, .ref 124), (1, .int (nI c)), (2, .int (nI d))]) dX11_product_42 (by decide) rfl ?_
        refine r_iload 1 rfl dX11_product_44 ?_
        refine r_iconst (v := 2) rfl dX11_product_46 ?_
        refine r_icmpne (tgt := 53) dX11_product_47 (by decide) (fun zh47 => ?_) (fun zh47 => ?_)
        · refine r_iload 0 rfl dX11_product_53 ?_
          refine r_iconst (v := 2) rfl dX11_product_55 ?_
          refine r_icmpne (tgt := 63) dX11_product_56 (by decide) (fun zh56 => ?_) (fun zh56 => ?_)
          · refine r_iload 0 rfl dX11_product_63 ?_
            refine r_iload 1 rfl dX11_product_65 ?_
            refine r_icmpne (tgt := 74) dX11_product_67 (by decide) (fun zh67 => ?_) (fun zh67 => ?_)
            · refine r_iconst (v := 0) rfl dX11_product_74 ?_
              refine r_istore_n (ls2 := [(3, .int 0), (6, .int zv42), (5, .int zv28), (4, .int (nI i)), (0, .ref 124), (1, .int (nI c)), (2, .int (nI d))]) dX11_product_75 (by decide) rfl ?_
              refine r_iinc (v := (nI (i + 1))) (ls2 := [(4, .int (nI (i + 1))), (3, .int 0), (6, .int zv42), (5, .int zv28), (0, .ref 124), (1, .int (nI c)), (2, .int (nI d))]) 3 dX11_product_76 rfl (x_inc i) (by decide) rfl ?_
              refine r_goto (tgt := 5) dX11_product_79 (by decide) ?_
              first
                | (have y1 : dgt c i = 2 := (nI_eq (b := 2) (by omega) (by decide)).mp (ze28.symm.trans zh47)
                   have y2 : pdS c d (i + 1) = pdS c d i := by rw [pdS, if_neg zp, if_pos y1]
                   rw [y2] at ih
                   exact r_sub [0, 1, 4, 5, 6] rfl (ih hlt))
                | (have y1 : ¬ dgt c i = 2 := fun z => zh47 (by rw [ze28, z]; rfl)
                   have y2 : dgt d i = 2 := (nI_eq (b := 2) (by omega) (by decide)).mp (ze42.symm.trans zh56)
                   have y3 : pdS c d (i + 1) = 2 := by rw [pdS, if_neg zp, if_neg y1, if_pos y2]
                   rw [y3] at ih
                   exact r_sub [0, 1, 4, 5, 6] rfl (ih hlt))
                | (have y1 : ¬ dgt c i = 2 := fun z => zh47 (by rw [ze28, z]; rfl)
                   have y2 : ¬ dgt d i = 2 := fun z => zh56 (by rw [ze42, z]; rfl)
                   have y3 : dgt d i = dgt c i := (nI_eq (by omega) (by omega)).mp (ze42.symm.trans (zh67.trans ze28))
                   have y4 : pdS c d (i + 1) = pdS c d i := by rw [pdS, if_neg zp, if_neg y1, if_neg y2, if_pos y3]
                   have y5 : zv75 = nI (pdS c d (i + 1)) := ze75.trans (by rw [y4])
                   subst y5
                   exact r_sub [0, 1, 4, 5, 6] rfl (ih hlt))
                | (have y1 : ¬ dgt c i = 2 := fun z => zh47 (by rw [ze28, z]; rfl)
                   have y2 : ¬ dgt d i = 2 := fun z => zh56 (by rw [ze42, z]; rfl)
                   have y3 : ¬ dgt d i = dgt c i := fun z => zh67 (by rw [ze42, ze28, z])
                   have y4 : pdS c d (i + 1) = 0 := by rw [pdS, if_neg zp, if_neg y1, if_neg y2, if_neg y3]
                   rw [y4] at ih
                   exact r_sub [0, 1, 4, 5, 6] rfl (ih hlt))
            · refine r_iload_n 3 rfl dX11_product_70 ?_
              refine r_goto (tgt := 75) dX11_product_71 (by decide) ?_
              refine r_nmi (fun zv75 ze75 => ?_)
              refine r_istore_n (ls2 := [(3, .int zv75), (6, .int zv42), (5, .int zv28), (4, .int (nI i)), (0, .ref 124), (1, .int (nI c)), (2, .int (nI d))]) dX11_product_75 (by decide) rfl ?_
              refine r_iinc (v := (nI (i + 1))) (ls2 := [(4, .int (nI (i + 1))), (3, .int zv75), (6, .int zv42), (5, .int zv28), (0, .ref 124), (1, .int (nI c)), (2, .int (nI d))]) 3 dX11_product_76 rfl (x_inc i) (by decide) rfl ?_
              refine r_goto (tgt := 5) dX11_product_79 (by decide) ?_
              first
                | (have y1 : dgt c i = 2 := (nI_eq (b := 2) (by omega) (by decide)).mp (ze28.symm.trans zh47)
                   have y2 : pdS c d (i + 1) = pdS c d i := by rw [pdS, if_neg zp, if_pos y1]
                   rw [y2] at ih
                   exact r_sub [0, 1, 4, 5, 6] rfl (ih hlt))
                | (have y1 : ¬ dgt c i = 2 := fun z => zh47 (by rw [ze28, z]; rfl)
                   have y2 : dgt d i = 2 := (nI_eq (b := 2) (by omega) (by decide)).mp (ze42.symm.trans zh56)
                   have y3 : pdS c d (i + 1) = 2 := by rw [pdS, if_neg zp, if_neg y1, if_pos y2]
                   rw [y3] at ih
                   exact r_sub [0, 1, 4, 5, 6] rfl (ih hlt))
                | (have y1 : ¬ dgt c i = 2 := fun z => zh47 (by rw [ze28, z]; rfl)
                   have y2 : ¬ dgt d i = 2 := fun z => zh56 (by rw [ze42, z]; rfl)
                   have y3 : dgt d i = dgt c i := (nI_eq (by omega) (by omega)).mp (ze42.symm.trans (zh67.trans ze28))
                   have y4 : pdS c d (i + 1) = pdS c d i := by rw [pdS, if_neg zp, if_neg y1, if_neg y2, if_pos y3]
                   have y5 : zv75 = nI (pdS c d (i + 1)) := ze75.trans (by rw [y4])
                   subst y5
                   exact r_sub [0, 1, 4, 5, 6] rfl (ih hlt))
                | (have y1 : ¬ dgt c i = 2 := fun z => zh47 (by rw [ze28, z]; rfl)
                   have y2 : ¬ dgt d i = 2 := fun z => zh56 (by rw [ze42, z]; rfl)
                   have y3 : ¬ dgt d i = dgt c i := fun z => zh67 (by rw [ze42, ze28, z])
                   have y4 : pdS c d (i + 1) = 0 := by rw [pdS, if_neg zp, if_neg y1, if_neg y2, if_neg y3]
                   rw [y4] at ih
                   exact r_sub [0, 1, 4, 5, 6] rfl (ih hlt))
          · refine r_iconst (v := 2) rfl dX11_product_59 ?_
            refine r_goto (tgt := 75) dX11_product_60 (by decide) ?_
            refine r_istore_n (ls2 := [(3, .int 2), (6, .int zv42), (5, .int zv28), (4, .int (nI i)), (0, .ref 124), (1, .int (nI c)), (2, .int (nI d))]) dX11_product_75 (by decide) rfl ?_
            refine r_iinc (v := (nI (i + 1))) (ls2 := [(4, .int (nI (i + 1))), (3, .int 2), (6, .int zv42), (5, .int zv28), (0, .ref 124), (1, .int (nI c)), (2, .int (nI d))]) 3 dX11_product_76 rfl (x_inc i) (by decide) rfl ?_
            refine r_goto (tgt := 5) dX11_product_79 (by decide) ?_
            first
              | (have y1 : dgt c i = 2 := (nI_eq (b := 2) (by omega) (by decide)).mp (ze28.symm.trans zh47)
                 have y2 : pdS c d (i + 1) = pdS c d i := by rw [pdS, if_neg zp, if_pos y1]
                 rw [y2] at ih
                 exact r_sub [0, 1, 4, 5, 6] rfl (ih hlt))
              | (have y1 : ¬ dgt c i = 2 := fun z => zh47 (by rw [ze28, z]; rfl)
                 have y2 : dgt d i = 2 := (nI_eq (b := 2) (by omega) (by decide)).mp (ze42.symm.trans zh56)
                 have y3 : pdS c d (i + 1) = 2 := by rw [pdS, if_neg zp, if_neg y1, if_pos y2]
                 rw [y3] at ih
                 exact r_sub [0, 1, 4, 5, 6] rfl (ih hlt))
              | (have y1 : ¬ dgt c i = 2 := fun z => zh47 (by rw [ze28, z]; rfl)
                 have y2 : ¬ dgt d i = 2 := fun z => zh56 (by rw [ze42, z]; rfl)
                 have y3 : dgt d i = dgt c i := (nI_eq (by omega) (by omega)).mp (ze42.symm.trans (zh67.trans ze28))
                 have y4 : pdS c d (i + 1) = pdS c d i := by rw [pdS, if_neg zp, if_neg y1, if_neg y2, if_pos y3]
                 have y5 : zv75 = nI (pdS c d (i + 1)) := ze75.trans (by rw [y4])
                 subst y5
                 exact r_sub [0, 1, 4, 5, 6] rfl (ih hlt))
              | (have y1 : ¬ dgt c i = 2 := fun z => zh47 (by rw [ze28, z]; rfl)
                 have y2 : ¬ dgt d i = 2 := fun z => zh56 (by rw [ze42, z]; rfl)
                 have y3 : ¬ dgt d i = dgt c i := fun z => zh67 (by rw [ze42, ze28, z])
                 have y4 : pdS c d (i + 1) = 0 := by rw [pdS, if_neg zp, if_neg y1, if_neg y2, if_neg y3]
                 rw [y4] at ih
                 exact r_sub [0, 1, 4, 5, 6] rfl (ih hlt))
        · refine r_goto (tgt := 76) dX11_product_50 (by decide) ?_
          refine r_iinc (v := (nI (i + 1))) (ls2 := [(4, .int (nI (i + 1))), (6, .int zv42), (5, .int zv28), (3, .int (nI (pdS c d i))), (0, .ref 124), (1, .int (nI c)), (2, .int (nI d))]) 2 dX11_product_76 rfl (x_inc i) (by decide) rfl ?_
          refine r_goto (tgt := 5) dX11_product_79 (by decide) ?_
          first
            | (have y1 : dgt c i = 2 := (nI_eq (b := 2) (by omega) (by decide)).mp (ze28.symm.trans zh47)
               have y2 : pdS c d (i + 1) = pdS c d i := by rw [pdS, if_neg zp, if_pos y1]
               rw [y2] at ih
               exact r_sub [0, 3, 4, 5, 6] rfl (ih hlt))
            | (have y1 : ¬ dgt c i = 2 := fun z => zh47 (by rw [ze28, z]; rfl)
               have y2 : dgt d i = 2 := (nI_eq (b := 2) (by omega) (by decide)).mp (ze42.symm.trans zh56)
               have y3 : pdS c d (i + 1) = 2 := by rw [pdS, if_neg zp, if_neg y1, if_pos y2]
               rw [y3] at ih
               exact r_sub [0, 3, 4, 5, 6] rfl (ih hlt))
            | (have y1 : ¬ dgt c i = 2 := fun z => zh47 (by rw [ze28, z]; rfl)
               have y2 : ¬ dgt d i = 2 := fun z => zh56 (by rw [ze42, z]; rfl)
               have y3 : dgt d i = dgt c i := (nI_eq (by omega) (by omega)).mp (ze42.symm.trans (zh67.trans ze28))
               have y4 : pdS c d (i + 1) = pdS c d i := by rw [pdS, if_neg zp, if_neg y1, if_neg y2, if_pos y3]
               have y5 : zv75 = nI (pdS c d (i + 1)) := ze75.trans (by rw [y4])
               subst y5
               exact r_sub [0, 3, 4, 5, 6] rfl (ih hlt))
            | (have y1 : ¬ dgt c i = 2 := fun z => zh47 (by rw [ze28, z]; rfl)
               have y2 : ¬ dgt d i = 2 := fun z => zh56 (by rw [ze42, z]; rfl)
               have y3 : ¬ dgt d i = dgt c i := fun z => zh67 (by rw [ze42, ze28, z])
               have y4 : pdS c d (i + 1) = 0 := by rw [pdS, if_neg zp, if_neg y1, if_neg y2, if_neg y3]
               rw [y4] at ih
               exact r_sub [0, 3, 4, 5, 6] rfl (ih hlt))
  refine r_iconst (v := 1) rfl dX11_product_0 ?_
  refine r_istore_n (ls2 := [(3, .int 1), (0, .ref 124), (1, .int (nI c)), (2, .int (nI d))]) dX11_product_1 (by decide) rfl ?_
  refine r_iconst (v := 0) rfl dX11_product_2 ?_
  refine r_istore (ls2 := [(4, .int 0), (3, .int 1), (0, .ref 124), (1, .int (nI c)), (2, .int (nI d))]) dX11_product_3 (by decide) rfl ?_
  exact r_sub [0, 1, 2, 3, 4] rfl (loop 0 (by decide))
set_option maxRecDepth 100000 in
theorem c_X11_either {a b : Nat} (ha : a < 3) (hb : b < 3) : Cf X yX11_either cX11_either 2 (some .int) 1 [.int (nI a), .int (nI b)] n SH MI ML MR (some (.int (nI (eiN a b)))) MI ML MR := by
  refine Ct_of (by decide) (Nat.le_of_ble_eq_true rfl) (fun G hG => ?_)
  refine r_iload_n 0 rfl dX11_either_0 ?_
  refine r_iconst (v := 1) rfl dX11_either_1 ?_
  refine r_icmpeq (tgt := 10) dX11_either_2 (by decide) (fun zh2 => ?_) (fun zh2 => ?_)
  · refine r_iconst (v := 1) rfl dX11_either_10 ?_
    refine r_goto (tgt := 24) dX11_either_11 (by decide) ?_
    exact r_iret hG dX11_either_24 (by
        refine ⟨?_, rfl, rfl, rfl⟩
        have ha2 : a = 0 ∨ a = 1 ∨ a = 2 := by omega
        have hb2 : b = 0 ∨ b = 1 ∨ b = 2 := by omega
        rcases ha2 with rfl | rfl | rfl <;> rcases hb2 with rfl | rfl | rfl <;> first | rfl | (exact absurd zh2 (by decide)) | (exact absurd zh7 (by decide)) | (exact absurd zh16 (by decide)))
  · refine r_iload_n 1 rfl dX11_either_5 ?_
    refine r_iconst (v := 1) rfl dX11_either_6 ?_
    refine r_icmpne (tgt := 14) dX11_either_7 (by decide) (fun zh7 => ?_) (fun zh7 => ?_)
    · refine r_iload_n 0 rfl dX11_either_14 ?_
      refine r_iload_n 1 rfl dX11_either_15 ?_
      refine r_icmple (tgt := 23) dX11_either_16 (by decide) (fun zh16 => ?_) (fun zh16 => ?_)
      · refine r_iload_n 1 rfl dX11_either_23 ?_
        exact r_iret hG dX11_either_24 (by
            refine ⟨?_, rfl, rfl, rfl⟩
            have ha2 : a = 0 ∨ a = 1 ∨ a = 2 := by omega
            have hb2 : b = 0 ∨ b = 1 ∨ b = 2 := by omega
            rcases ha2 with rfl | rfl | rfl <;> rcases hb2 with rfl | rfl | rfl <;> first | rfl | (exact absurd zh2 (by decide)) | (exact absurd zh7 (by decide)) | (exact absurd zh16 (by decide)))
      · refine r_iload_n 0 rfl dX11_either_19 ?_
        refine r_goto (tgt := 24) dX11_either_20 (by decide) ?_
        exact r_iret hG dX11_either_24 (by
            refine ⟨?_, rfl, rfl, rfl⟩
            have ha2 : a = 0 ∨ a = 1 ∨ a = 2 := by omega
            have hb2 : b = 0 ∨ b = 1 ∨ b = 2 := by omega
            rcases ha2 with rfl | rfl | rfl <;> rcases hb2 with rfl | rfl | rfl <;> first | rfl | (exact absurd zh2 (by decide)) | (exact absurd zh7 (by decide)) | (exact absurd zh16 (by decide)))
    · refine r_iconst (v := 1) rfl dX11_either_10 ?_
      refine r_goto (tgt := 24) dX11_either_11 (by decide) ?_
      exact r_iret hG dX11_either_24 (by
          refine ⟨?_, rfl, rfl, rfl⟩
          have ha2 : a = 0 ∨ a = 1 ∨ a = 2 := by omega
          have hb2 : b = 0 ∨ b = 1 ∨ b = 2 := by omega
          rcases ha2 with rfl | rfl | rfl <;> rcases hb2 with rfl | rfl | rfl <;> first | rfl | (exact absurd zh2 (by decide)) | (exact absurd zh7 (by decide)) | (exact absurd zh16 (by decide)))
theorem gix (j : Nat) : (56 : Int32) + 2 * nI j = nI (56 + 2 * j) := by
  have h1 := pk_mul 2 j
  have h2 := nI_add 56 (2 * j)
  rw [← h1] at h2
  exact h2
theorem gix1 (j : Nat) : (56 : Int32) + 2 * nI j + 1 = nI (57 + 2 * j) := by
  rw [gix, nI_1, show 56 + 2 * j + 1 = 57 + 2 * j by omega]
set_option maxRecDepth 100000 in
theorem c_X11_isGateOf (hM : x_Lay MR) {j : Nat} (hj : j < 16) {x : Int32} : Cf X yX11_isGateOf cX11_isGateOf 3 (some .boolean) 1 [.ref 124, .int x, .int (nI j)] n SH MI ML MR (some (.int (b2 (decide (MI 128 (56 + 2 * j) = x))))) MI ML MR := by
  refine Ct_of (by decide) (Nat.le_of_ble_eq_true rfl) (fun G hG => ?_)
  refine r_aload_n 0 rfl dX11_isGateOf_0 ?_
  refine r_getr dX11_isGateOf_1 fl_X11_31 rfl (hM _ _ _ rfl) ?_
  refine r_bipush (v := 56) rfl dX11_isGateOf_4 ?_
  refine r_iconst (v := 2) rfl dX11_isGateOf_6 ?_
  refine r_iload_n 2 rfl dX11_isGateOf_7 ?_
  refine r_imul dX11_isGateOf_8 ?_
  refine r_iadd dX11_isGateOf_9 ?_
  refine r_iald dX11_isGateOf_10 rfl (by rw [gix]; exact vp_in_nI (show 56 + 2 * j < 88 by omega) (by decide)) ?_
  rw [gix, nI_clamp (by omega)]
  refine r_iload_n 1 rfl dX11_isGateOf_11 ?_
  refine r_icmpne (tgt := 19) dX11_isGateOf_12 (by decide) (fun zh12 => ?_) (fun zh12 => ?_)
  · refine r_iconst (v := 0) rfl dX11_isGateOf_19 ?_
    exact r_zret hG dX11_isGateOf_20 (rfl) (⟨by simp_all [b2], rfl, rfl, rfl⟩)
  · refine r_iconst (v := 1) rfl dX11_isGateOf_15 ?_
    refine r_goto (tgt := 20) dX11_isGateOf_16 (by decide) ?_
    exact r_zret hG dX11_isGateOf_20 (rfl) (⟨by simp_all [b2], rfl, rfl, rfl⟩)
set_option maxRecDepth 100000 in
theorem c_X11_gateCube (hM : x_Lay MR) {g j : Nat} (hg : gOK MI g) (hj : j < g) : Cf X yX11_gateCube cX11_gateCube 2 (some .int) 1 [.ref 124, .int (nI j)] n SH MI ML MR (some (.int (nI (gcN MI j)))) MI ML MR := by
  have hg16 := hg.1
  refine Ct_of (by decide) (Nat.le_of_ble_eq_true rfl) (fun G hG => ?_)
  refine r_aload_n 0 rfl dX11_gateCube_0 ?_
  refine r_getr dX11_gateCube_1 fl_X11_31 rfl (hM _ _ _ rfl) ?_
  refine r_bipush (v := 56) rfl dX11_gateCube_4 ?_
  refine r_iconst (v := 2) rfl dX11_gateCube_6 ?_
  refine r_iload_n 1 rfl dX11_gateCube_7 ?_
  refine r_imul dX11_gateCube_8 ?_
  refine r_iadd dX11_gateCube_9 ?_
  refine r_iconst (v := 1) rfl dX11_gateCube_10 ?_
  refine r_iadd dX11_gateCube_11 ?_
  refine r_iald dX11_gateCube_12 rfl (by rw [gix1]; exact vp_in_nI (show 57 + 2 * j < 88 by omega) (by decide)) ?_
  rw [gix1, nI_clamp (by omega), (hg.2.2 j hj).1]
  exact r_iret hG dX11_gateCube_13 (⟨rfl, rfl, rfl, rfl⟩)
set_option maxRecDepth 100000 in
theorem c_X11_liesInGate (hM : x_Lay MR) {g c : Nat} (hg : gOK MI g) (hc : c < 729) {x : Int32} : Cf X yX11_liesInGate cX11_liesInGate 4 (some .boolean) 2 [.ref 124, .int x, .int (nI c)] n SH MI ML MR (some (.int (b2 ((List.range g).any (lgP MI ML x c))))) MI ML MR := by
  have hg16 := hg.1
  refine Ct_of (by decide) (Nat.le_of_ble_eq_true rfl) (fun G hG => ?_)
  have loop : ∀ i, i ≤ g → (∀ k, k < i → lgP MI ML x c k = false) → RW X G RX11 cX11_liesInGate 4 (x_rm 2 0 0) n SH MI ML MR 0 0 2 [(3, .int (nI i)), (0, .ref 124), (1, .int x), (2, .int (nI c))] [] := by
    refine bwd (fun i hi ih hk => ?_)
    refine r_iload_n 0 rfl dX11_liesInGate_2 ?_
    refine r_aload_n 1 rfl dX11_liesInGate_3 ?_
    refine r_getr dX11_liesInGate_4 fl_X11_31 rfl (hM _ _ _ rfl) ?_
    refine r_bipush (v := 55) rfl dX11_liesInGate_7 ?_
    refine r_iald dX11_liesInGate_9 rfl (vpk (k := 55) (by decide) (by decide) rfl) ?_
    have z55 : MI 128 (55 : Int32).toNatClampNeg = nI g := hg.2.1
    rw [z55]
    refine r_icmpge (tgt := 43) dX11_liesInGate_10 (by decide) (fun zh10 => ?_) (fun zh10 => ?_)
    · obtain rfl : g = i := by have := geL (k := g) (by omega) (by omega) zh10; omega
      refine r_iconst (v := 0) rfl dX11_liesInGate_43 ?_
      exact r_zret hG dX11_liesInGate_44 (rfl) (by
          have zt : (List.range g).any (lgP MI ML x c) = false := List.any_eq_false.mpr fun k hk2 => by rw [hk k (List.mem_range.mp hk2)]; decide
          rw [zt]
          exact ⟨rfl, rfl, rfl, rfl⟩)
    · have hlt : i < g := ltL (by omega) zh10
      refine r_aload_n 1 rfl dX11_liesInGate_13 ?_
      refine r_iload_n 2 rfl dX11_liesInGate_14 ?_
      refine r_iload_n 0 rfl dX11_liesInGate_15 ?_
      refine r_Vf [.int _, .int _] dX11_liesInGate_16 lk_X11_442 mb_X11_isGateOf in_X11_isGateOf se_X11_isGateOf rfl (c_X11_isGateOf hM (show i < 16 by omega)) rfl rfl rfl (Nat.le_of_ble_eq_true rfl) (rfl) ?_
      refine r_ifeq (tgt := 37) dX11_liesInGate_19 (by decide) (fun zh19 => ?_) (fun zh19 => ?_)
      · refine r_iinc (v := (nI (i + 1))) (ls2 := [(3, .int (nI (i + 1))), (0, .ref 124), (1, .int x), (2, .int (nI c))]) 0 dX11_liesInGate_37 rfl (x_inc i) (by decide) rfl ?_
        refine r_goto (tgt := 2) dX11_liesInGate_40 (by decide) ?_
        refine ih hlt (fun k hk2 => ?_)
        rcases Nat.lt_or_ge k i with q | q
        · exact hk k q
        · obtain rfl : k = i := by omega
          unfold lgP
          first
            | rw [b2z.mp zh32, Bool.and_false]
            | (rw [b2z.mp zh19]; rfl)
      · refine r_aload_n 1 rfl dX11_liesInGate_22 ?_
        refine r_iload_n 3 rfl dX11_liesInGate_23 ?_
        refine r_aload_n 1 rfl dX11_liesInGate_24 ?_
        refine r_iload_n 0 rfl dX11_liesInGate_25 ?_
        refine r_Vf [.int _] dX11_liesInGate_26 lk_X11_445 mb_X11_gateCube in_X11_gateCube se_X11_gateCube rfl (c_X11_gateCube hM hg hlt) rfl rfl rfl (Nat.le_of_ble_eq_true rfl) (rfl) ?_
        refine r_Vf [.int _, .int _] dX11_liesInGate_29 lk_X11_388 mb_X11_liesIn in_X11_liesIn se_X11_liesIn rfl (c_X11_liesIn hM hc (hg.2.2 i hlt).2) rfl rfl rfl (Nat.le_of_ble_eq_true rfl) (rfl) ?_
        refine r_ifeq (tgt := 37) dX11_liesInGate_32 (by decide) (fun zh32 => ?_) (fun zh32 => ?_)
        · refine r_iinc (v := (nI (i + 1))) (ls2 := [(3, .int (nI (i + 1))), (0, .ref 124), (1, .int x), (2, .int (nI c))]) 0 dX11_liesInGate_37 rfl (x_inc i) (by decide) rfl ?_
          refine r_goto (tgt := 2) dX11_liesInGate_40 (by decide) ?_
          refine ih hlt (fun k hk2 => ?_)
          rcases Nat.lt_or_ge k i with q | q
          · exact hk k q
          · obtain rfl : k = i := by omega
            unfold lgP
            first
              | rw [b2z.mp zh32, Bool.and_false]
              | (rw [b2z.mp zh19]; rfl)
        · refine r_iconst (v := 1) rfl dX11_liesInGate_35 ?_
          exact r_zret hG dX11_liesInGate_36 (rfl) (by
              have zt : (List.range g).any (lgP MI ML x c) = true := List.any_eq_true.mpr ⟨i, List.mem_range.mpr hlt, by unfold lgP; rw [b2n.mp zh19, b2n.mp zh32]; rfl⟩
              rw [zt]
              exact ⟨rfl, rfl, rfl, rfl⟩)
  refine r_iconst (v := 0) rfl dX11_liesInGate_0 ?_
  refine r_istore_n (ls2 := [(3, .int 0), (0, .ref 124), (1, .int x), (2, .int (nI c))]) dX11_liesInGate_1 (by decide) rfl ?_
  exact loop 0 (Nat.zero_le _) (fun k hk => absurd hk (Nat.not_lt_zero k))
set_option maxRecDepth 100000 in
theorem c_X11_runs_1 (hM : x_Lay MR) (hmu : muOK MI) {g d : Nat} (hg : gOK MI g) (hd : d < 729) {x y : Int32} (hy : ¬ y = 0) : Cf X yX11_runs cX11_runs 6 (some .int) 2 [.ref 124, .int x, .int (nI d), .int y] n SH MI ML MR (some (.int (nI (rgS MI x d g)))) MI ML MR := by
  have hg16 := hg.1
  refine Ct_of (by decide) (Nat.le_of_ble_eq_true rfl) (fun G hG => ?_)
  have loop : ∀ i, i ≤ g → RW X G RX11 cX11_runs 6 (x_rm 2 0 0) n SH MI ML MR 0 0 10 [(5, .int (nI i)), (4, .int (nI (rgS MI x d i))), (0, .ref 124), (1, .int x), (2, .int (nI d)), (3, .int y)] [] := by
    refine bwd (fun i hi ih => ?_)
    refine r_iload 0 rfl dX11_runs_10 ?_
    refine r_aload_n 2 rfl dX11_runs_12 ?_
    refine r_getr dX11_runs_13 fl_X11_31 rfl (hM _ _ _ rfl) ?_
    refine r_bipush (v := 55) rfl dX11_runs_16 ?_
    refine r_iald dX11_runs_18 rfl (vpk (k := 55) (by decide) (by decide) rfl) ?_
    have z55 : MI 128 (55 : Int32).toNatClampNeg = nI g := hg.2.1
    rw [z55]
    refine r_icmpge (tgt := 61) dX11_runs_19 (by decide) (fun zh19 => ?_) (fun zh19 => ?_)
    · obtain rfl : g = i := by have := geL (k := g) (by omega) (by omega) zh19; omega
      refine r_goto (tgt := 103) dX11_runs_61 (by decide) ?_
      refine r_iload 1 rfl dX11_runs_103 ?_
      exact r_iret hG dX11_runs_105 (⟨rfl, rfl, rfl, rfl⟩)
    · have hlt : i < g := ltL (by omega) zh19
      refine r_aload_n 2 rfl dX11_runs_22 ?_
      refine r_iload_n 3 rfl dX11_runs_23 ?_
      refine r_iload 0 rfl dX11_runs_24 ?_
      refine r_Vf [.int _, .int _] dX11_runs_26 lk_X11_442 mb_X11_isGateOf in_X11_isGateOf se_X11_isGateOf rfl (c_X11_isGateOf hM (show i < 16 by omega)) rfl rfl rfl (Nat.le_of_ble_eq_true rfl) (rfl) ?_
      refine r_ifeq (tgt := 51) dX11_runs_29 (by decide) (fun zh29 => ?_) (fun zh29 => ?_)
      · refine r_iload 1 rfl dX11_runs_51 ?_
        refine r_nmi (fun zv53 ze53 => ?_)
        refine r_istore (ls2 := [(4, .int zv53), (5, .int (nI i)), (0, .ref 124), (1, .int x), (2, .int (nI d)), (3, .int y)]) dX11_runs_53 (by decide) rfl ?_
        refine r_iinc (v := (nI (i + 1))) (ls2 := [(5, .int (nI (i + 1))), (4, .int zv53), (0, .ref 124), (1, .int x), (2, .int (nI d)), (3, .int y)]) 1 dX11_runs_55 rfl (x_inc i) (by decide) rfl ?_
        refine r_goto (tgt := 10) dX11_runs_58 (by decide) ?_
        obtain rfl : zv53 = nI (rgS MI x d (i + 1)) := by
          rw [ze53, rgS]
          first
            | rw [if_pos (of_decide_eq_true (b2n.mp zh29))]
            | rw [if_neg (of_decide_eq_false (b2z.mp zh29))]
        exact r_sub [0, 1, 2, 3, 4, 5] rfl (ih hlt)
      · refine r_iload 1 rfl dX11_runs_32 ?_
        refine r_aload_n 2 rfl dX11_runs_34 ?_
        refine r_aload_n 2 rfl dX11_runs_35 ?_
        refine r_iload 0 rfl dX11_runs_36 ?_
        refine r_Vf [.int _] dX11_runs_38 lk_X11_445 mb_X11_gateCube in_X11_gateCube se_X11_gateCube rfl (c_X11_gateCube hM hg hlt) rfl rfl rfl (Nat.le_of_ble_eq_true rfl) (rfl) ?_
        refine r_iload_n 4 rfl dX11_runs_41 ?_
        refine r_Vf [.int _, .int _] dX11_runs_42 lk_X11_454 mb_X11_product in_X11_product se_X11_product rfl (c_X11_product hM hmu (hg.2.2 i hlt).2 hd) rfl rfl rfl (Nat.le_of_ble_eq_true rfl) (rfl) ?_
        refine r_Sf [.int _, .int _] dX11_runs_45 lk_X11_457 mb_X11_either sc_X11_either rfl (c_X11_either (rgS_lt _ _ _ _) (pdS_lt _ _ _)) rfl (Nat.le_of_ble_eq_true rfl) (rfl) ?_
        refine r_goto (tgt := 53) dX11_runs_48 (by decide) ?_
        refine r_nmi (fun zv53 ze53 => ?_)
        refine r_istore (ls2 := [(4, .int zv53), (5, .int (nI i)), (0, .ref 124), (1, .int x), (2, .int (nI d)), (3, .int y)]) dX11_runs_53 (by decide) rfl ?_
        refine r_iinc (v := (nI (i + 1))) (ls2 := [(5, .int (nI (i + 1))), (4, .int zv53), (0, .ref 124), (1, .int x), (2, .int (nI d)), (3, .int y)]) 1 dX11_runs_55 rfl (x_inc i) (by decide) rfl ?_
        refine r_goto (tgt := 10) dX11_runs_58 (by decide) ?_
        obtain rfl : zv53 = nI (rgS MI x d (i + 1)) := by
          rw [ze53, rgS]
          first
            | rw [if_pos (of_decide_eq_true (b2n.mp zh29))]
            | rw [if_neg (of_decide_eq_false (b2z.mp zh29))]
        exact r_sub [0, 1, 2, 3, 4, 5] rfl (ih hlt)
  refine r_iconst (v := 0) rfl dX11_runs_0 ?_
  refine r_istore (ls2 := [(4, .int 0), (0, .ref 124), (1, .int x), (2, .int (nI d)), (3, .int y)]) dX11_runs_1 (by decide) rfl ?_
  refine r_iload_n 4 rfl dX11_runs_3 ?_
  refine r_ifeq (tgt := 64) dX11_runs_4 (by decide) (fun zh4 => ?_) (fun zh4 => ?_)
  · exact absurd zh4 (hy)
  refine r_iconst (v := 0) rfl dX11_runs_7 ?_
  refine r_istore (ls2 := [(5, .int 0), (4, .int 0), (0, .ref 124), (1, .int x), (2, .int (nI d)), (3, .int y)]) dX11_runs_8 (by decide) rfl ?_
  exact r_sub [0, 1, 2, 3, 4, 5] rfl (loop 0 (Nat.zero_le _))
set_option maxRecDepth 100000 in
theorem c_X11_runs_0 (hM : x_Lay MR) (hmu : muOK MI) {f q d : Nat} (hf : f < 5) (hq : q ≤ 5) (hqe : MI 145 f = nI q) (h : ccOK MI f q) (hd : d < 729) : Cf X yX11_runs cX11_runs 6 (some .int) 2 [.ref 124, .int (nI f), .int (nI d), .int 0] n SH MI ML MR (some (.int (nI (rcS (ccN MI f) d q)))) MI ML MR := by
  have cf : (nI f).toNatClampNeg = f := nI_clamp (by omega)
  refine Ct_of (by decide) (Nat.le_of_ble_eq_true rfl) (fun G hG => ?_)
  have loop : ∀ i, i ≤ q → RW X G RX11 cX11_runs 6 (x_rm 2 0 0) n SH MI ML MR 0 0 67 [(5, .int (nI i)), (4, .int (nI (rcS (ccN MI f) d i))), (0, .ref 124), (1, .int (nI f)), (2, .int (nI d)), (3, .int 0)] [] := by
    refine bwd (fun i hi ih => ?_)
    refine r_iload 0 rfl dX11_runs_67 ?_
    refine r_aload_n 2 rfl dX11_runs_69 ?_
    refine r_getr dX11_runs_70 fl_X11_83 rfl (hM _ _ _ rfl) ?_
    refine r_iload_n 3 rfl dX11_runs_73 ?_
    refine r_iald dX11_runs_74 rfl (vp_in_nI hf (by decide)) ?_
    rw [cf, hqe]
    refine r_icmpge (tgt := 103) dX11_runs_75 (by decide) (fun zh75 => ?_) (fun zh75 => ?_)
    · obtain rfl : q = i := by have := geL (k := q) (by omega) (by omega) zh75; omega
      refine r_iload 1 rfl dX11_runs_103 ?_
      exact r_iret hG dX11_runs_105 (⟨rfl, rfl, rfl, rfl⟩)
    · have hlt : i < q := ltL (by omega) zh75
      refine r_iload 1 rfl dX11_runs_78 ?_
      refine r_aload_n 2 rfl dX11_runs_80 ?_
      refine r_aload_n 2 rfl dX11_runs_81 ?_
      refine r_iload_n 3 rfl dX11_runs_82 ?_
      refine r_iload 0 rfl dX11_runs_83 ?_
      refine r_Vf [.int _, .int _] dX11_runs_85 lk_X11_421 mb_X11_chosenCube in_X11_chosenCube se_X11_chosenCube rfl (c_X11_chosenCube hM hf hq h hlt) rfl rfl rfl (Nat.le_of_ble_eq_true rfl) (rfl) ?_
      refine r_iload_n 4 rfl dX11_runs_88 ?_
      refine r_Vf [.int _, .int _] dX11_runs_89 lk_X11_454 mb_X11_product in_X11_product se_X11_product rfl (c_X11_product hM hmu (h i hlt).choose_spec.2.2.2 hd) rfl rfl rfl (Nat.le_of_ble_eq_true rfl) (rfl) ?_
      refine r_Sf [.int _, .int _] dX11_runs_92 lk_X11_457 mb_X11_either sc_X11_either rfl (c_X11_either (rcS_lt _ _ _) (pdS_lt _ _ _)) rfl (Nat.le_of_ble_eq_true rfl) (rfl) ?_
      refine r_nmi (fun zv95 ze95 => ?_)
      refine r_istore (ls2 := [(4, .int zv95), (5, .int (nI i)), (0, .ref 124), (1, .int (nI f)), (2, .int (nI d)), (3, .int 0)]) dX11_runs_95 (by decide) rfl ?_
      refine r_iinc (v := (nI (i + 1))) (ls2 := [(5, .int (nI (i + 1))), (4, .int zv95), (0, .ref 124), (1, .int (nI f)), (2, .int (nI d)), (3, .int 0)]) 1 dX11_runs_97 rfl (x_inc i) (by decide) rfl ?_
      refine r_goto (tgt := 67) dX11_runs_100 (by decide) ?_
      obtain rfl : zv95 = nI (rcS (ccN MI f) d (i + 1)) := by rw [ze95, rcS]
      exact r_sub [0, 1, 2, 3, 4, 5] rfl (ih hlt)
  refine r_iconst (v := 0) rfl dX11_runs_0 ?_
  refine r_istore (ls2 := [(4, .int 0), (0, .ref 124), (1, .int (nI f)), (2, .int (nI d)), (3, .int 0)]) dX11_runs_1 (by decide) rfl ?_
  refine r_iload_n 4 rfl dX11_runs_3 ?_
  refine r_ifeq (tgt := 64) dX11_runs_4 (by decide) (fun zh4 => ?_) (fun zh4 => ?_)
  rotate_left
  · exact absurd zh4 (fun q => q rfl)
  refine r_iconst (v := 0) rfl dX11_runs_64 ?_
  refine r_istore (ls2 := [(5, .int 0), (4, .int 0), (0, .ref 124), (1, .int (nI f)), (2, .int (nI d)), (3, .int 0)]) dX11_runs_65 (by decide) rfl ?_
  exact r_sub [0, 1, 2, 3, 4, 5] rfl (loop 0 (Nat.zero_le _))
end rruns

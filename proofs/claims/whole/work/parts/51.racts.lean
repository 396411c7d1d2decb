/-! the reference: the walk, last, the tape, acts -/
def arB (P : Nat → Nat → Int32) (w set : Int32) : Nat → Nat → Int32 → Int32
  | 0, _, fd => fd
  | k + 1, i, fd => if P i 0 = w ∧ set &&& (buP P i ^^^ -1) = 0 then (if buP P i = set then nI i else arB P w set k (i + 1) (-2)) else arB P w set k (i + 1) fd
theorem arB_ex {P : Nat → Nat → Int32} {w set : Int32} : ∀ (k i : Nat) (fd : Int32), (fd = -1 ∨ fd = -2) → (arB P w set k i fd = -1 ∨ arB P w set k i fd = -2) ∨ ∃ j, j < i + k ∧ arB P w set k i fd = nI j
  | 0, _, _, h => Or.inl h
  | k + 1, i, fd, h => by
    rw [arB]
    split
    · split
      · exact Or.inr ⟨i, by omega, rfl⟩
      · rcases arB_ex k (i + 1) (-2) (Or.inr rfl) with z | ⟨j, hj, e⟩
        · exact Or.inl z
        · exact Or.inr ⟨j, by omega, e⟩
    · rcases arB_ex k (i + 1) fd h with z | ⟨j, hj, e⟩
      · exact Or.inl z
      · exact Or.inr ⟨j, by omega, e⟩
def rpI (V : Mi) (A : Nat) (x : Int32) : Int32 := if bitR (V 124 47) x = true then -1 else arB (arR V) (V 124 46) (V 124 47 ||| ((1 : Int32) <<< (x &&& 31))) A 0 (-1)
def rpM (V : Mi) (A : Nat) (x : Int32) : Mi := if rpI V A x = -2 then u2 V 124 47 (V 124 47 ||| ((1 : Int32) <<< (x &&& 31))) else u2 (u2 V 124 47 0) 124 46 (arR V (rpI V A x).toNatClampNeg 1)
/-- push: answer, trouble, memory -/
def rpR (V : Mi) (A : Nat) (x : Int32) : Int32 × Int32 × Mi := if V 124 20 = 0 then (-1, 1, V) else if 0 < V 124 27 then (-1, 5, V) else if inB x 0 3 = true then (if rpI V A x = -1 then (-1, 5, V) else (rpM V A x 124 46, 0, rpM V A x)) else (-1, 2, V)
def isl (P : Nat → Nat → Int32) (A s : Nat) : Bool := (List.range A).all (fun i => decide (¬ P i 0 = nI s))
def lstR (Lf : Nat → Bool) (x : Int32) : Nat → Nat → Nat → Option Nat
  | 0, _, _ => none
  | k + 1, s, m => if Lf s = true then (if nI m = x then some s else lstR Lf x k (s + 1) (m + 1)) else lstR Lf x k (s + 1) m
def lsA (z : Option Nat) : Int32 := match z with
  | some s => nI s
  | none => 0
def lsT (z : Option Nat) : Int32 := match z with
  | some _ => 0
  | none => 1
def sel5 (a b c d e : Int32) (k : Nat) : Int32 := if k < 4 then a else if k < 8 then b else if k < 12 then c else if k < 16 then d else e
def rbV (x : Int32) (k : Nat) : Int32 := vp_nar .byte (x >>> ((24 - 8 * nI k) &&& 31)).toInt8.toInt32
def rfd (MI : Mi) (u : Nat) (a b c d e : Int32) (k : Nat) : Mi := fun q j => if q = 127 ∧ u ≤ j ∧ j < u + k then rbV (sel5 a b c d e (j - u)) ((j - u) % 4) else if q = 124 ∧ j = 6 then nI (u + k) else MI q j
section racts
variable {X : xG} {n : Nat} {MI : Nat → Nat → Int32} {ML : Nat → Nat → Int64} {MR : Nat → Nat → Option Nat}
set_option maxRecDepth 100000 in
theorem c_X11_walk (hM : x_Lay MR) {w : Nat} (hw : w < 6) (hwr : MI 124 46 = nI w) {x : Int32} : Cf X yX11_walk cX11_walk 2 (some .int) 2 [.ref 124, .int x] n SH MI ML MR (some (.int (rwAns (th MI) x).1)) (rfM (th MI) (rwAns (th MI) x).2) ML MR := by
  obtain ⟨V, hV⟩ : ∃ V, V = th MI := ⟨_, rfl⟩
  have hwV : V 124 46 = nI w := by rw [hV]; exact hwr
  rw [← hV]
  have i46 : vp_in (V 124 46) 6 := by rw [hwV]; exact vp_in_nI hw (by decide)
  by_cases hc : V 124 20 = 0 ∨ ¬ inB x 0 3 = true
  · have ha : rwAns V x = (-1, 1) := by unfold rwAns; rw [if_pos hc]
    rw [ha]
    refine Ct_of (by decide) (Nat.le_of_ble_eq_true rfl) (fun G hG => ?_)
    refine r_aload_n 0 rfl dX11_walk_0 ?_
    refine r_iconst (v := 0) rfl dX11_walk_1 ?_
    refine r_puti dX11_walk_2 fl_X11_3 rfl rfl rfl ?_
    refine r_mem hV.symm rfl rfl ?_
    refine r_aload_n 0 rfl dX11_walk_5 ?_
    refine r_geti dX11_walk_6 fl_X11_257 rfl ?_
    refine r_ifeq (tgt := 21) dX11_walk_9 (by decide) (fun zh9 => ?_) (fun zh9 => ?_)
    · refine r_aload_n 0 rfl dX11_walk_21 ?_
      refine r_iconst (v := 1) rfl dX11_walk_22 ?_
      refine r_Vf [.int _] dX11_walk_23 lk_X11_251 mb_X11_refused in_X11_refused se_X11_refused rfl (c_X11_refused) rfl rfl rfl (Nat.le_of_ble_eq_true rfl) (rfl) ?_
      exact r_iret hG dX11_walk_26 (⟨rfl, rfl, rfl, rfl⟩)
    · refine r_iload_n 1 rfl dX11_walk_12 ?_
      refine r_iconst (v := 0) rfl dX11_walk_13 ?_
      refine r_iconst (v := 3) rfl dX11_walk_14 ?_
      refine r_Sf [.int _, .int _, .int _] dX11_walk_15 lk_X11_138 mb_X11_in sc_X11_in rfl (c_X11_in) rfl (Nat.le_of_ble_eq_true rfl) (rfl) ?_
      refine r_ifne (tgt := 27) dX11_walk_18 (by decide) (fun zh18 => ?_) (fun zh18 => ?_)
      · exact absurd hc (fun z => z.elim zh9 (fun y => y (b2n.mp zh18)))
      · refine r_aload_n 0 rfl dX11_walk_21 ?_
        refine r_iconst (v := 1) rfl dX11_walk_22 ?_
        refine r_Vf [.int _] dX11_walk_23 lk_X11_251 mb_X11_refused in_X11_refused se_X11_refused rfl (c_X11_refused) rfl rfl rfl (Nat.le_of_ble_eq_true rfl) (rfl) ?_
        exact r_iret hG dX11_walk_26 (⟨rfl, rfl, rfl, rfl⟩)
  · have h9 : ¬ V 124 20 = 0 := fun z => hc (Or.inl z)
    have hb : inB x 0 3 = true := Classical.not_not.mp fun z => hc (Or.inr z)
    by_cases h27 : 0 < V 124 27
    · have ha : rwAns V x = (-1, 5) := by unfold rwAns; rw [if_neg hc, if_pos h27]
      rw [ha]
      refine Ct_of (by decide) (Nat.le_of_ble_eq_true rfl) (fun G hG => ?_)
      refine r_aload_n 0 rfl dX11_walk_0 ?_
      refine r_iconst (v := 0) rfl dX11_walk_1 ?_
      refine r_puti dX11_walk_2 fl_X11_3 rfl rfl rfl ?_
      refine r_mem hV.symm rfl rfl ?_
      refine r_aload_n 0 rfl dX11_walk_5 ?_
      refine r_geti dX11_walk_6 fl_X11_257 rfl ?_
      refine r_ifeq (tgt := 21) dX11_walk_9 (by decide) (fun zh9 => ?_) (fun zh9 => ?_)
      · exact absurd zh9 (h9)
      refine r_iload_n 1 rfl dX11_walk_12 ?_
      refine r_iconst (v := 0) rfl dX11_walk_13 ?_
      refine r_iconst (v := 3) rfl dX11_walk_14 ?_
      refine r_Sf [.int _, .int _, .int _] dX11_walk_15 lk_X11_138 mb_X11_in sc_X11_in rfl (c_X11_in) rfl (Nat.le_of_ble_eq_true rfl) (rfl) ?_
      refine r_ifne (tgt := 27) dX11_walk_18 (by decide) (fun zh18 => ?_) (fun zh18 => ?_)
      rotate_left
      · exact absurd zh18 (b2n.mpr hb)
      refine r_aload_n 0 rfl dX11_walk_27 ?_
      refine r_geti dX11_walk_28 fl_X11_273 rfl ?_
      refine r_ifle (tgt := 40) dX11_walk_31 (by decide) (fun zh31 => ?_) (fun zh31 => ?_)
      · exact absurd zh31 (Int32.not_le.mpr h27)
      refine r_aload_n 0 rfl dX11_walk_34 ?_
      refine r_iconst (v := 5) rfl dX11_walk_35 ?_
      refine r_Vf [.int _] dX11_walk_36 lk_X11_251 mb_X11_refused in_X11_refused se_X11_refused rfl (c_X11_refused) rfl rfl rfl (Nat.le_of_ble_eq_true rfl) (rfl) ?_
      exact r_iret hG dX11_walk_39 (⟨rfl, rfl, rfl, rfl⟩)
    · have ha : rwAns V x = ((if x = 0 then V 124 46 else if x = 1 then V 135 (V 124 46).toNatClampNeg ^^^ V 124 47 else if x = 2 then V 136 (V 124 46).toNatClampNeg else V 124 47), 0) := by unfold rwAns; rw [if_neg hc, if_neg h27]
      rw [ha]
      refine Ct_of (by decide) (Nat.le_of_ble_eq_true rfl) (fun G hG => ?_)
      refine r_aload_n 0 rfl dX11_walk_0 ?_
      refine r_iconst (v := 0) rfl dX11_walk_1 ?_
      refine r_puti dX11_walk_2 fl_X11_3 rfl rfl rfl ?_
      refine r_mem hV.symm rfl rfl ?_
      refine r_aload_n 0 rfl dX11_walk_5 ?_
      refine r_geti dX11_walk_6 fl_X11_257 rfl ?_
      refine r_ifeq (tgt := 21) dX11_walk_9 (by decide) (fun zh9 => ?_) (fun zh9 => ?_)
      · exact absurd zh9 (h9)
      refine r_iload_n 1 rfl dX11_walk_12 ?_
      refine r_iconst (v := 0) rfl dX11_walk_13 ?_
      refine r_iconst (v := 3) rfl dX11_walk_14 ?_
      refine r_Sf [.int _, .int _, .int _] dX11_walk_15 lk_X11_138 mb_X11_in sc_X11_in rfl (c_X11_in) rfl (Nat.le_of_ble_eq_true rfl) (rfl) ?_
      refine r_ifne (tgt := 27) dX11_walk_18 (by decide) (fun zh18 => ?_) (fun zh18 => ?_)
      rotate_left
      · exact absurd zh18 (b2n.mpr hb)
      refine r_aload_n 0 rfl dX11_walk_27 ?_
      refine r_geti dX11_walk_28 fl_X11_273 rfl ?_
      refine r_ifle (tgt := 40) dX11_walk_31 (by decide) (fun zh31 => ?_) (fun zh31 => ?_)
      rotate_left
      · exact absurd zh31 (fun q => h27 (Int32.not_le.mp q))
      refine r_iload_n 1 rfl dX11_walk_40 ?_
      rcases tsw 3 x with zo41 | ⟨zk41, zl41, zx41⟩
      · refine r_tswO (tgt := 110) dX11_walk_41 zo41 (by decide) ?_
        refine r_aload_n 0 rfl dX11_walk_110 ?_
        refine r_aload_n 0 rfl dX11_walk_111 ?_
        refine r_geti dX11_walk_112 fl_X11_294 rfl ?_
        refine r_Vf [.int _] dX11_walk_115 lk_X11_267 mb_X11_good in_X11_good se_X11_good rfl (c_X11_good) rfl rfl rfl (Nat.le_of_ble_eq_true rfl) (rfl) ?_
        exact r_iret hG dX11_walk_118 (by
            first
              | (rw [zx41]; exact ⟨rfl, rfl, rfl, rfl⟩)
              | (obtain ⟨f, hf, rfl⟩ := inB_ex (N := 3) (by decide) hb
                 rw [nI_toInt (by omega)] at zo41
                 obtain rfl : f = 3 := by omega
                 exact ⟨rfl, rfl, rfl, rfl⟩))
      · rcases (show zk41 = 0 ∨ zk41 = 1 ∨ zk41 = 2 by omega) with zy41 | zy41 | zy41
        · rw [zy41] at zx41
          refine r_tswI (k := 0) (tgt := 68) dX11_walk_41 zx41 (by decide) (by decide) rfl (by decide) ?_
          refine r_aload_n 0 rfl dX11_walk_68 ?_
          refine r_aload_n 0 rfl dX11_walk_69 ?_
          refine r_geti dX11_walk_70 fl_X11_291 rfl ?_
          refine r_Vf [.int _] dX11_walk_73 lk_X11_267 mb_X11_good in_X11_good se_X11_good rfl (c_X11_good) rfl rfl rfl (Nat.le_of_ble_eq_true rfl) (rfl) ?_
          exact r_iret hG dX11_walk_76 (by
              first
                | (rw [zx41]; exact ⟨rfl, rfl, rfl, rfl⟩)
                | (obtain ⟨f, hf, rfl⟩ := inB_ex (N := 3) (by decide) hb
                   rw [nI_toInt (by omega)] at zo41
                   obtain rfl : f = 3 := by omega
                   exact ⟨rfl, rfl, rfl, rfl⟩))
        · rw [zy41] at zx41
          refine r_tswI (k := 1) (tgt := 77) dX11_walk_41 zx41 (by decide) (by decide) rfl (by decide) ?_
          refine r_aload_n 0 rfl dX11_walk_77 ?_
          refine r_aload_n 0 rfl dX11_walk_78 ?_
          refine r_getr dX11_walk_79 fl_X11_53 rfl (hM _ _ _ rfl) ?_
          refine r_aload_n 0 rfl dX11_walk_82 ?_
          refine r_geti dX11_walk_83 fl_X11_291 rfl ?_
          refine r_iald dX11_walk_86 rfl (i46) ?_
          refine r_aload_n 0 rfl dX11_walk_87 ?_
          refine r_geti dX11_walk_88 fl_X11_294 rfl ?_
          refine r_ixor dX11_walk_91 ?_
          refine r_Vf [.int _] dX11_walk_92 lk_X11_267 mb_X11_good in_X11_good se_X11_good rfl (c_X11_good) rfl rfl rfl (Nat.le_of_ble_eq_true rfl) (rfl) ?_
          exact r_iret hG dX11_walk_95 (by
              first
                | (rw [zx41]; exact ⟨rfl, rfl, rfl, rfl⟩)
                | (obtain ⟨f, hf, rfl⟩ := inB_ex (N := 3) (by decide) hb
                   rw [nI_toInt (by omega)] at zo41
                   obtain rfl : f = 3 := by omega
                   exact ⟨rfl, rfl, rfl, rfl⟩))
        · rw [zy41] at zx41
          refine r_tswI (k := 2) (tgt := 96) dX11_walk_41 zx41 (by decide) (by decide) rfl (by decide) ?_
          refine r_aload_n 0 rfl dX11_walk_96 ?_
          refine r_aload_n 0 rfl dX11_walk_97 ?_
          refine r_getr dX11_walk_98 fl_X11_56 rfl (hM _ _ _ rfl) ?_
          refine r_aload_n 0 rfl dX11_walk_101 ?_
          refine r_geti dX11_walk_102 fl_X11_291 rfl ?_
          refine r_iald dX11_walk_105 rfl (i46) ?_
          refine r_Vf [.int _] dX11_walk_106 lk_X11_267 mb_X11_good in_X11_good se_X11_good rfl (c_X11_good) rfl rfl rfl (Nat.le_of_ble_eq_true rfl) (rfl) ?_
          exact r_iret hG dX11_walk_109 (by
              first
                | (rw [zx41]; exact ⟨rfl, rfl, rfl, rfl⟩)
                | (obtain ⟨f, hf, rfl⟩ := inB_ex (N := 3) (by decide) hb
                   rw [nI_toInt (by omega)] at zo41
                   obtain rfl : f = 3 := by omega
                   exact ⟨rfl, rfl, rfl, rfl⟩))
set_option maxRecDepth 100000 in
theorem c_X11_arcBy (hM : x_Lay MR) {A : Nat} (hA : A ≤ 8) (hAr : MI 128 6 = nI A) {x : Int32} : Cf X yX11_arcBy cX11_arcBy 4 (some .int) 3 [.ref 124, .int x] n SH MI ML MR (some (.int (arB (arR MI) (MI 124 46) x A 0 (-1)))) MI ML MR := by
  refine Ct_of (by decide) (Nat.le_of_ble_eq_true rfl) (fun G hG => ?_)
  have c6 : (6 : Int32).toNatClampNeg = 6 := rfl
  obtain ⟨z, hz⟩ : ∃ z, z = arB (arR MI) (MI 124 46) x A 0 (-1) := ⟨_, rfl⟩
  rw [← hz] at hG
  have loop : ∀ i, i ≤ A → ∀ fd, arB (arR MI) (MI 124 46) x (A - i) i fd = z → RW X G RX11 cX11_arcBy 4 (x_rm 3 0 0) n SH MI ML MR 0 0 4 [(3, .int (nI i)), (2, .int fd), (0, .ref 124), (1, .int x)] [] := by
    refine bwd (fun i hi ih fd hq => ?_)
    have cnd_ : i < A → arB (arR MI) (MI 124 46) x (A - i) i fd = if arR MI i 0 = MI 124 46 ∧ x &&& ((arR MI i 2 ||| arR MI i 3) ^^^ -1) = 0 then (if (arR MI i 2 ||| arR MI i 3) = x then nI i else arB (arR MI) (MI 124 46) x (A - (i + 1)) (i + 1) (-2)) else arB (arR MI) (MI 124 46) x (A - (i + 1)) (i + 1) fd := fun h => by
      rw [show A - i = (A - (i + 1)) + 1 by omega, arB]
      rfl
    refine r_iload_n 0 rfl dX11_arcBy_4 ?_
    refine r_aload_n 2 rfl dX11_arcBy_5 ?_
    refine r_getr dX11_arcBy_6 fl_X11_31 rfl (hM _ _ _ rfl) ?_
    refine r_bipush (v := 6) rfl dX11_arcBy_9 ?_
    refine r_iald dX11_arcBy_11 rfl (vpk (k := 6) (by decide) (by decide) rfl) ?_
    refine r_icmpge (tgt := 63) dX11_arcBy_12 (by decide) (fun zh12 => ?_) (fun zh12 => ?_)
    · rw [c6, hAr] at zh12
      have hie : i = A := by have := geL (k := A) (by omega) (by omega) zh12; omega
      rw [hie, Nat.sub_self, arB] at hq
      refine r_iload_n 1 rfl dX11_arcBy_63 ?_
      exact r_iret hG dX11_arcBy_64 (by rw [← hq]; exact ⟨rfl, rfl, rfl, rfl⟩)
    · rw [c6, hAr] at zh12
      have hlt : i < A := ltL (by omega) zh12
      rw [cnd_ hlt] at hq
      refine r_aload_n 2 rfl dX11_arcBy_15 ?_
      refine r_iload_n 0 rfl dX11_arcBy_16 ?_
      refine r_iconst (v := 0) rfl dX11_arcBy_17 ?_
      refine r_Vf [.int _, .int _] dX11_arcBy_18 lk_X11_270 mb_X11_arcOf in_X11_arcOf se_X11_arcOf rfl (c_X11_arcOf (j := 0) hM (show i < 8 by omega) (by decide)) rfl rfl rfl (Nat.le_of_ble_eq_true rfl) (rfl) ?_
      refine r_aload_n 2 rfl dX11_arcBy_21 ?_
      refine r_geti dX11_arcBy_22 fl_X11_291 rfl ?_
      refine r_icmpne (tgt := 57) dX11_arcBy_25 (by decide) (fun zh25 => ?_) (fun zh25 => ?_)
      · refine r_iinc (v := (nI (i + 1))) (ls2 := [(3, .int (nI (i + 1))), (2, .int fd), (0, .ref 124), (1, .int x)]) 0 dX11_arcBy_57 rfl (x_inc i) (by decide) rfl ?_
        refine r_goto (tgt := 4) dX11_arcBy_60 (by decide) ?_
        first
          | (rw [if_pos ⟨zh25, zh37⟩, if_neg zh49] at hq; exact r_sub [0, 1, 2, 3] rfl (ih hlt _ hq))
          | (have zn : ¬ (arR MI i 0 = MI 124 46 ∧ x &&& ((arR MI i 2 ||| arR MI i 3) ^^^ -1) = 0) := fun q => zh37 q.2
             rw [if_neg zn] at hq; exact r_sub [0, 1, 2, 3] rfl (ih hlt _ hq))
          | (have zn : ¬ (arR MI i 0 = MI 124 46 ∧ x &&& ((arR MI i 2 ||| arR MI i 3) ^^^ -1) = 0) := fun q => zh25 q.1
             rw [if_neg zn] at hq; exact r_sub [0, 1, 2, 3] rfl (ih hlt _ hq))
      · refine r_iload_n 3 rfl dX11_arcBy_28 ?_
        refine r_aload_n 2 rfl dX11_arcBy_29 ?_
        refine r_iload_n 0 rfl dX11_arcBy_30 ?_
        refine r_Vf [.int _] dX11_arcBy_31 lk_X11_307 mb_X11_changed in_X11_changed se_X11_changed rfl (c_X11_changed hM (show i < 8 by omega)) rfl rfl rfl (Nat.le_of_ble_eq_true rfl) (rfl) ?_
        refine r_iconst (v := (-1)) rfl dX11_arcBy_34 ?_
        refine r_ixor dX11_arcBy_35 ?_
        refine r_iand dX11_arcBy_36 ?_
        refine r_ifeq (tgt := 43) dX11_arcBy_37 (by decide) (fun zh37 => ?_) (fun zh37 => ?_)
        · refine r_aload_n 2 rfl dX11_arcBy_43 ?_
          refine r_iload_n 0 rfl dX11_arcBy_44 ?_
          refine r_Vf [.int _] dX11_arcBy_45 lk_X11_307 mb_X11_changed in_X11_changed se_X11_changed rfl (c_X11_changed hM (show i < 8 by omega)) rfl rfl rfl (Nat.le_of_ble_eq_true rfl) (rfl) ?_
          refine r_iload_n 3 rfl dX11_arcBy_48 ?_
          refine r_icmpne (tgt := 54) dX11_arcBy_49 (by decide) (fun zh49 => ?_) (fun zh49 => ?_)
          · refine r_bipush (v := (-2)) rfl dX11_arcBy_54 ?_
            refine r_istore_n (ls2 := [(2, .int (-2)), (3, .int (nI i)), (0, .ref 124), (1, .int x)]) dX11_arcBy_56 (by decide) rfl ?_
            refine r_iinc (v := (nI (i + 1))) (ls2 := [(3, .int (nI (i + 1))), (2, .int (-2)), (0, .ref 124), (1, .int x)]) 1 dX11_arcBy_57 rfl (x_inc i) (by decide) rfl ?_
            refine r_goto (tgt := 4) dX11_arcBy_60 (by decide) ?_
            first
              | (rw [if_pos ⟨zh25, zh37⟩, if_neg zh49] at hq; exact r_sub [0, 1, 2, 3] rfl (ih hlt _ hq))
              | (have zn : ¬ (arR MI i 0 = MI 124 46 ∧ x &&& ((arR MI i 2 ||| arR MI i 3) ^^^ -1) = 0) := fun q => zh37 q.2
                 rw [if_neg zn] at hq; exact r_sub [0, 1, 2, 3] rfl (ih hlt _ hq))
              | (have zn : ¬ (arR MI i 0 = MI 124 46 ∧ x &&& ((arR MI i 2 ||| arR MI i 3) ^^^ -1) = 0) := fun q => zh25 q.1
                 rw [if_neg zn] at hq; exact r_sub [0, 1, 2, 3] rfl (ih hlt _ hq))
          · refine r_iload_n 0 rfl dX11_arcBy_52 ?_
            exact r_iret hG dX11_arcBy_53 (by rw [if_pos ⟨zh25, zh37⟩, if_pos zh49] at hq; rw [← hq]; exact ⟨rfl, rfl, rfl, rfl⟩)
        · refine r_goto (tgt := 57) dX11_arcBy_40 (by decide) ?_
          refine r_iinc (v := (nI (i + 1))) (ls2 := [(3, .int (nI (i + 1))), (2, .int fd), (0, .ref 124), (1, .int x)]) 0 dX11_arcBy_57 rfl (x_inc i) (by decide) rfl ?_
          refine r_goto (tgt := 4) dX11_arcBy_60 (by decide) ?_
          first
            | (rw [if_pos ⟨zh25, zh37⟩, if_neg zh49] at hq; exact r_sub [0, 1, 2, 3] rfl (ih hlt _ hq))
            | (have zn : ¬ (arR MI i 0 = MI 124 46 ∧ x &&& ((arR MI i 2 ||| arR MI i 3) ^^^ -1) = 0) := fun q => zh37 q.2
               rw [if_neg zn] at hq; exact r_sub [0, 1, 2, 3] rfl (ih hlt _ hq))
            | (have zn : ¬ (arR MI i 0 = MI 124 46 ∧ x &&& ((arR MI i 2 ||| arR MI i 3) ^^^ -1) = 0) := fun q => zh25 q.1
               rw [if_neg zn] at hq; exact r_sub [0, 1, 2, 3] rfl (ih hlt _ hq))
  refine r_iconst (v := (-1)) rfl dX11_arcBy_0 ?_
  refine r_istore_n (ls2 := [(2, .int (-1)), (0, .ref 124), (1, .int x)]) dX11_arcBy_1 (by decide) rfl ?_
  refine r_iconst (v := 0) rfl dX11_arcBy_2 ?_
  refine r_istore_n (ls2 := [(3, .int 0), (2, .int (-1)), (0, .ref 124), (1, .int x)]) dX11_arcBy_3 (by decide) rfl ?_
  exact r_sub [0, 1, 2, 3] rfl (loop 0 (Nat.zero_le _) _ hz.symm)
set_option maxRecDepth 100000 in
theorem c_X11_push (hM : x_Lay MR) {A : Nat} (hA : A ≤ 8) (hAr : MI 128 6 = nI A) {x : Int32} : Cf X yX11_push cX11_push 4 (some .int) 4 [.ref 124, .int x] n SH MI ML MR (some (.int (rpR (th MI) A x).1)) (rfM (rpR (th MI) A x).2.2 (rpR (th MI) A x).2.1) ML MR := by
  obtain ⟨V, hV⟩ : ∃ V, V = th MI := ⟨_, rfl⟩
  have hAV : V 128 6 = nI A := by rw [hV]; exact hAr
  rw [← hV]
  by_cases h9 : V 124 20 = 0
  · have ha : rpR V A x = (-1, 1, V) := by unfold rpR; rw [if_pos h9]
    rw [ha]
    refine Ct_of (by decide) (Nat.le_of_ble_eq_true rfl) (fun G hG => ?_)
    refine r_aload_n 0 rfl dX11_push_0 ?_
    refine r_iconst (v := 0) rfl dX11_push_1 ?_
    refine r_puti dX11_push_2 fl_X11_3 rfl rfl rfl ?_
    refine r_mem hV.symm rfl rfl ?_
    refine r_aload_n 0 rfl dX11_push_5 ?_
    refine r_geti dX11_push_6 fl_X11_257 rfl ?_
    refine r_ifne (tgt := 18) dX11_push_9 (by decide) (fun zh9 => ?_) (fun zh9 => ?_)
    · exact absurd zh9 (fun q => q h9)
    refine r_aload_n 0 rfl dX11_push_12 ?_
    refine r_iconst (v := 1) rfl dX11_push_13 ?_
    refine r_Vf [.int _] dX11_push_14 lk_X11_251 mb_X11_refused in_X11_refused se_X11_refused rfl (c_X11_refused) rfl rfl rfl (Nat.le_of_ble_eq_true rfl) (rfl) ?_
    exact r_iret hG dX11_push_17 (⟨rfl, rfl, rfl, rfl⟩)
  by_cases h22 : 0 < V 124 27
  · have ha : rpR V A x = (-1, 5, V) := by unfold rpR; rw [if_neg h9, if_pos h22]
    rw [ha]
    refine Ct_of (by decide) (Nat.le_of_ble_eq_true rfl) (fun G hG => ?_)
    refine r_aload_n 0 rfl dX11_push_0 ?_
    refine r_iconst (v := 0) rfl dX11_push_1 ?_
    refine r_puti dX11_push_2 fl_X11_3 rfl rfl rfl ?_
    refine r_mem hV.symm rfl rfl ?_
    refine r_aload_n 0 rfl dX11_push_5 ?_
    refine r_geti dX11_push_6 fl_X11_257 rfl ?_
    refine r_ifne (tgt := 18) dX11_push_9 (by decide) (fun zh9 => ?_) (fun zh9 => ?_)
    rotate_left
    · exact absurd zh9 (h9)
    refine r_aload_n 0 rfl dX11_push_18 ?_
    refine r_geti dX11_push_19 fl_X11_273 rfl ?_
    refine r_ifle (tgt := 31) dX11_push_22 (by decide) (fun zh22 => ?_) (fun zh22 => ?_)
    · exact absurd zh22 (Int32.not_le.mpr h22)
    refine r_aload_n 0 rfl dX11_push_25 ?_
    refine r_iconst (v := 5) rfl dX11_push_26 ?_
    refine r_Vf [.int _] dX11_push_27 lk_X11_251 mb_X11_refused in_X11_refused se_X11_refused rfl (c_X11_refused) rfl rfl rfl (Nat.le_of_ble_eq_true rfl) (rfl) ?_
    exact r_iret hG dX11_push_30 (⟨rfl, rfl, rfl, rfl⟩)
  have d22 : V 124 27 ≤ 0 := Int32.not_lt.mp h22
  by_cases hb : inB x 0 3 = true
  · have ha : rpR V A x = if rpI V A x = -1 then (-1, 5, V) else (rpM V A x 124 46, 0, rpM V A x) := by unfold rpR; rw [if_neg h9, if_neg h22, if_pos hb]
    have hex : ¬ rpI V A x = -1 → rpI V A x = -2 ∨ ∃ j, j < A ∧ rpI V A x = nI j := fun hn => by
      unfold rpI at hn ⊢
      split at hn
      · exact absurd rfl hn
      · rename_i z
        rw [if_neg z]
        rcases arB_ex A 0 (-1) (Or.inl rfl) with (e | e) | ⟨j, hj, e⟩
        · exact absurd e hn
        · exact Or.inl e
        · exact Or.inr ⟨j, by omega, e⟩
    rw [ha]
    refine Ct_of (by decide) (Nat.le_of_ble_eq_true rfl) (fun G hG => ?_)
    have j75 : ∀ t, t = rpI V A x → RW X G RX11 cX11_push 4 (x_rm 4 0 0) n SH V ML MR 0 0 75 [(2, .int (V 124 47 ||| ((1 : Int32) <<< (x &&& 31)))), (0, .ref 124), (1, .int x)] [.int t] := by
      intro t ht
      by_cases h1 : t = -1
      · rw [if_pos (ht ▸ h1)] at hG
        refine r_istore_n (ls2 := [(3, .int t), (2, .int (V 124 47 ||| ((1 : Int32) <<< (x &&& 31)))), (0, .ref 124), (1, .int x)]) dX11_push_75 (by decide) rfl ?_
        refine r_iload_n 0 rfl dX11_push_76 ?_
        refine r_iconst (v := (-1)) rfl dX11_push_77 ?_
        refine r_icmpne (tgt := 87) dX11_push_78 (by decide) (fun zh78 => ?_) (fun zh78 => ?_)
        · exact absurd zh78 (fun q => q h1)
        refine r_aload_n 2 rfl dX11_push_81 ?_
        refine r_iconst (v := 5) rfl dX11_push_82 ?_
        refine r_Vf [.int _] dX11_push_83 lk_X11_251 mb_X11_refused in_X11_refused se_X11_refused rfl (c_X11_refused) rfl rfl rfl (Nat.le_of_ble_eq_true rfl) (rfl) ?_
        exact r_iret hG dX11_push_86 (⟨rfl, rfl, rfl, rfl⟩)
      · rw [if_neg (ht ▸ h1)] at hG
        rcases hex (ht ▸ h1) with h2 | ⟨j, hj, h2⟩
        · rw [← ht] at h2
          have hm : rpM V A x = u2 V 124 47 (V 124 47 ||| ((1 : Int32) <<< (x &&& 31))) := by unfold rpM; rw [if_pos (ht ▸ h2)]
          rw [hm] at hG
          refine r_istore_n (ls2 := [(3, .int t), (2, .int (V 124 47 ||| ((1 : Int32) <<< (x &&& 31)))), (0, .ref 124), (1, .int x)]) dX11_push_75 (by decide) rfl ?_
          refine r_iload_n 0 rfl dX11_push_76 ?_
          refine r_iconst (v := (-1)) rfl dX11_push_77 ?_
          refine r_icmpne (tgt := 87) dX11_push_78 (by decide) (fun zh78 => ?_) (fun zh78 => ?_)
          rotate_left
          · exact absurd zh78 (h1)
          refine r_aload_n 2 rfl dX11_push_87 ?_
          refine r_iload_n 0 rfl dX11_push_88 ?_
          refine r_bipush (v := (-2)) rfl dX11_push_89 ?_
          refine r_icmpne (tgt := 98) dX11_push_91 (by decide) (fun zh91 => ?_) (fun zh91 => ?_)
          · exact absurd zh91 (fun q => q h2)
          refine r_iload_n 1 rfl dX11_push_94 ?_
          refine r_goto (tgt := 99) dX11_push_95 (by decide) ?_
          refine r_puti dX11_push_99 fl_X11_294 rfl rfl rfl ?_
          refine r_iload_n 0 rfl dX11_push_102 ?_
          refine r_bipush (v := (-2)) rfl dX11_push_103 ?_
          refine r_icmpeq (tgt := 118) dX11_push_105 (by decide) (fun zh105 => ?_) (fun zh105 => ?_)
          rotate_left
          · exact absurd zh105 (fun q => q h2)
          refine r_aload_n 2 rfl dX11_push_118 ?_
          refine r_aload_n 2 rfl dX11_push_119 ?_
          refine r_geti dX11_push_120 fl_X11_291 rfl ?_
          refine r_Vf [.int _] dX11_push_123 lk_X11_267 mb_X11_good in_X11_good se_X11_good rfl (c_X11_good) rfl rfl rfl (Nat.le_of_ble_eq_true rfl) (rfl) ?_
          exact r_iret hG dX11_push_126 (⟨rfl, rfl, rfl, rfl⟩)
        · rw [← ht] at h2
          subst h2
          have h3 : ¬ nI j = -2 := fun e => absurd (show nI j < 0 by rw [e]; decide) (nI_pos (by omega))
          have hm : rpM V A x = u2 (u2 V 124 47 0) 124 46 (arR V j 1) := by unfold rpM; rw [if_neg (ht ▸ h3), ← ht, nI_clamp (by omega)]
          rw [hm] at hG
          refine r_istore_n (ls2 := [(3, .int (nI j)), (2, .int (V 124 47 ||| ((1 : Int32) <<< (x &&& 31)))), (0, .ref 124), (1, .int x)]) dX11_push_75 (by decide) rfl ?_
          refine r_iload_n 0 rfl dX11_push_76 ?_
          refine r_iconst (v := (-1)) rfl dX11_push_77 ?_
          refine r_icmpne (tgt := 87) dX11_push_78 (by decide) (fun zh78 => ?_) (fun zh78 => ?_)
          rotate_left
          · exact absurd zh78 (h1)
          refine r_aload_n 2 rfl dX11_push_87 ?_
          refine r_iload_n 0 rfl dX11_push_88 ?_
          refine r_bipush (v := (-2)) rfl dX11_push_89 ?_
          refine r_icmpne (tgt := 98) dX11_push_91 (by decide) (fun zh91 => ?_) (fun zh91 => ?_)
          rotate_left
          · exact absurd zh91 (h3)
          refine r_iconst (v := 0) rfl dX11_push_98 ?_
          refine r_puti dX11_push_99 fl_X11_294 rfl rfl rfl ?_
          refine r_iload_n 0 rfl dX11_push_102 ?_
          refine r_bipush (v := (-2)) rfl dX11_push_103 ?_
          refine r_icmpeq (tgt := 118) dX11_push_105 (by decide) (fun zh105 => ?_) (fun zh105 => ?_)
          · exact absurd zh105 (h3)
          refine r_aload_n 2 rfl dX11_push_108 ?_
          refine r_aload_n 2 rfl dX11_push_109 ?_
          refine r_iload_n 0 rfl dX11_push_110 ?_
          refine r_iconst (v := 1) rfl dX11_push_111 ?_
          refine r_Vf [.int _, .int _] dX11_push_112 lk_X11_270 mb_X11_arcOf in_X11_arcOf se_X11_arcOf rfl (c_X11_arcOf (j := 1) hM (show j < 8 by omega) (by decide)) rfl rfl rfl (Nat.le_of_ble_eq_true rfl) (rfl) ?_
          refine r_puti dX11_push_115 fl_X11_291 rfl rfl rfl ?_
          refine r_aload_n 2 rfl dX11_push_118 ?_
          refine r_aload_n 2 rfl dX11_push_119 ?_
          refine r_geti dX11_push_120 fl_X11_291 rfl ?_
          refine r_Vf [.int _] dX11_push_123 lk_X11_267 mb_X11_good in_X11_good se_X11_good rfl (c_X11_good) rfl rfl rfl (Nat.le_of_ble_eq_true rfl) (rfl) ?_
          exact r_iret hG dX11_push_126 (⟨rfl, rfl, rfl, rfl⟩)
    refine r_aload_n 0 rfl dX11_push_0 ?_
    refine r_iconst (v := 0) rfl dX11_push_1 ?_
    refine r_puti dX11_push_2 fl_X11_3 rfl rfl rfl ?_
    refine r_mem hV.symm rfl rfl ?_
    refine r_aload_n 0 rfl dX11_push_5 ?_
    refine r_geti dX11_push_6 fl_X11_257 rfl ?_
    refine r_ifne (tgt := 18) dX11_push_9 (by decide) (fun zh9 => ?_) (fun zh9 => ?_)
    rotate_left
    · exact absurd zh9 (h9)
    refine r_aload_n 0 rfl dX11_push_18 ?_
    refine r_geti dX11_push_19 fl_X11_273 rfl ?_
    refine r_ifle (tgt := 31) dX11_push_22 (by decide) (fun zh22 => ?_) (fun zh22 => ?_)
    rotate_left
    · exact absurd zh22 (fun q => q d22)
    refine r_iload_n 1 rfl dX11_push_31 ?_
    refine r_iconst (v := 0) rfl dX11_push_32 ?_
    refine r_iconst (v := 3) rfl dX11_push_33 ?_
    refine r_Sf [.int _, .int _, .int _] dX11_push_34 lk_X11_138 mb_X11_in sc_X11_in rfl (c_X11_in) rfl (Nat.le_of_ble_eq_true rfl) (rfl) ?_
    refine r_ifne (tgt := 46) dX11_push_37 (by decide) (fun zh37 => ?_) (fun zh37 => ?_)
    rotate_left
    · exact absurd zh37 (b2n.mpr hb)
    refine r_aload_n 0 rfl dX11_push_46 ?_
    refine r_geti dX11_push_47 fl_X11_294 rfl ?_
    refine r_iconst (v := 1) rfl dX11_push_50 ?_
    refine r_iload_n 1 rfl dX11_push_51 ?_
    refine r_ishl dX11_push_52 ?_
    refine r_ior dX11_push_53 ?_
    refine r_istore_n (ls2 := [(2, .int (V 124 47 ||| ((1 : Int32) <<< (x &&& 31)))), (0, .ref 124), (1, .int x)]) dX11_push_54 (by decide) rfl ?_
    refine r_aload_n 1 rfl dX11_push_55 ?_
    refine r_geti dX11_push_56 fl_X11_294 rfl ?_
    refine r_iload_n 2 rfl dX11_push_59 ?_
    refine r_Sf [.int _, .int _] dX11_push_60 lk_X11_114 mb_X11_bit sc_X11_bit rfl (c_X11_bit) rfl (Nat.le_of_ble_eq_true rfl) (rfl) ?_
    refine r_ifeq (tgt := 70) dX11_push_63 (by decide) (fun zh63 => ?_) (fun zh63 => ?_)
    · refine r_aload_n 1 rfl dX11_push_70 ?_
      refine r_iload_n 0 rfl dX11_push_71 ?_
      refine r_Vf [.int _] dX11_push_72 lk_X11_483 mb_X11_arcBy in_X11_arcBy se_X11_arcBy rfl (c_X11_arcBy hM hA hAV) rfl rfl rfl (Nat.le_of_ble_eq_true rfl) (rfl) ?_
      first
        | (have zb : ¬ bitR (V 124 47) x = true := by rw [b2z.mp zh63]; decide
           exact j75 _ (by unfold rpI; rw [if_neg zb]))
        | (have zb : bitR (V 124 47) x = true := b2n.mp zh63
           exact j75 _ (by unfold rpI; rw [if_pos zb]))
    · refine r_iconst (v := (-1)) rfl dX11_push_66 ?_
      refine r_goto (tgt := 75) dX11_push_67 (by decide) ?_
      first
        | (have zb : ¬ bitR (V 124 47) x = true := by rw [b2z.mp zh63]; decide
           exact j75 _ (by unfold rpI; rw [if_neg zb]))
        | (have zb : bitR (V 124 47) x = true := b2n.mp zh63
           exact j75 _ (by unfold rpI; rw [if_pos zb]))
  · have ha : rpR V A x = (-1, 2, V) := by unfold rpR; rw [if_neg h9, if_neg h22, if_neg hb]
    rw [ha]
    refine Ct_of (by decide) (Nat.le_of_ble_eq_true rfl) (fun G hG => ?_)
    refine r_aload_n 0 rfl dX11_push_0 ?_
    refine r_iconst (v := 0) rfl dX11_push_1 ?_
    refine r_puti dX11_push_2 fl_X11_3 rfl rfl rfl ?_
    refine r_mem hV.symm rfl rfl ?_
    refine r_aload_n 0 rfl dX11_push_5 ?_
    refine r_geti dX11_push_6 fl_X11_257 rfl ?_
    refine r_ifne (tgt := 18) dX11_push_9 (by decide) (fun zh9 => ?_) (fun zh9 => ?_)
    rotate_left
    · exact absurd zh9 (h9)
    refine r_aload_n 0 rfl dX11_push_18 ?_
    refine r_geti dX11_push_19 fl_X11_273 rfl ?_
    refine r_ifle (tgt := 31) dX11_push_22 (by decide) (fun zh22 => ?_) (fun zh22 => ?_)
    rotate_left
    · exact absurd zh22 (fun q => q d22)
    refine r_iload_n 1 rfl dX11_push_31 ?_
    refine r_iconst (v := 0) rfl dX11_push_32 ?_
    refine r_iconst (v := 3) rfl dX11_push_33 ?_
    refine r_Sf [.int _, .int _, .int _] dX11_push_34 lk_X11_138 mb_X11_in sc_X11_in rfl (c_X11_in) rfl (Nat.le_of_ble_eq_true rfl) (rfl) ?_
    refine r_ifne (tgt := 46) dX11_push_37 (by decide) (fun zh37 => ?_) (fun zh37 => ?_)
    · exact absurd zh37 (fun q => hb (b2n.mp q))
    refine r_aload_n 0 rfl dX11_push_40 ?_
    refine r_iconst (v := 2) rfl dX11_push_41 ?_
    refine r_Vf [.int _] dX11_push_42 lk_X11_251 mb_X11_refused in_X11_refused se_X11_refused rfl (c_X11_refused) rfl rfl rfl (Nat.le_of_ble_eq_true rfl) (rfl) ?_
    exact r_iret hG dX11_push_45 (⟨rfl, rfl, rfl, rfl⟩)
set_option maxRecDepth 100000 in
theorem c_X11_isLast (hM : x_Lay MR) {A s : Nat} (hA : A ≤ 8) (hAr : MI 128 6 = nI A) : Cf X yX11_isLast cX11_isLast 3 (some .boolean) 2 [.ref 124, .int (nI s)] n SH MI ML MR (some (.int (b2 (isl (arR MI) A s)))) MI ML MR := by
  refine Ct_of (by decide) (Nat.le_of_ble_eq_true rfl) (fun G hG => ?_)
  have c6 : (6 : Int32).toNatClampNeg = 6 := rfl
  have loop : ∀ i, i ≤ A → (∀ k, k < i → ¬ arR MI k 0 = nI s) → RW X G RX11 cX11_isLast 3 (x_rm 2 0 0) n SH MI ML MR 0 0 2 [(2, .int (nI i)), (0, .ref 124), (1, .int (nI s))] [] := by
    refine bwd (fun i hi ih hk => ?_)
    refine r_iload_n 0 rfl dX11_isLast_2 ?_
    refine r_aload_n 1 rfl dX11_isLast_3 ?_
    refine r_getr dX11_isLast_4 fl_X11_31 rfl (hM _ _ _ rfl) ?_
    refine r_bipush (v := 6) rfl dX11_isLast_7 ?_
    refine r_iald dX11_isLast_9 rfl (vpk (k := 6) (by decide) (by decide) rfl) ?_
    refine r_icmpge (tgt := 31) dX11_isLast_10 (by decide) (fun zh10 => ?_) (fun zh10 => ?_)
    · rw [c6, hAr] at zh10
      have hie : i = A := by have := geL (k := A) (by omega) (by omega) zh10; omega
      refine r_iconst (v := 1) rfl dX11_isLast_31 ?_
      exact r_zret hG dX11_isLast_32 (rfl) (⟨by rw [show isl (arR MI) A s = true from List.all_eq_true.mpr (fun k hk2 => decide_eq_true (hk k (by rw [hie]; exact List.mem_range.mp hk2)))]; rfl, rfl, rfl, rfl⟩)
    · rw [c6, hAr] at zh10
      have hlt : i < A := ltL (by omega) zh10
      refine r_aload_n 1 rfl dX11_isLast_13 ?_
      refine r_iload_n 0 rfl dX11_isLast_14 ?_
      refine r_iconst (v := 0) rfl dX11_isLast_15 ?_
      refine r_Vf [.int _, .int _] dX11_isLast_16 lk_X11_270 mb_X11_arcOf in_X11_arcOf se_X11_arcOf rfl (c_X11_arcOf (j := 0) hM (show i < 8 by omega) (by decide)) rfl rfl rfl (Nat.le_of_ble_eq_true rfl) (rfl) ?_
      refine r_iload_n 2 rfl dX11_isLast_19 ?_
      refine r_icmpne (tgt := 25) dX11_isLast_20 (by decide) (fun zh20 => ?_) (fun zh20 => ?_)
      · refine r_iinc (v := (nI (i + 1))) (ls2 := [(2, .int (nI (i + 1))), (0, .ref 124), (1, .int (nI s))]) 0 dX11_isLast_25 rfl (x_inc i) (by decide) rfl ?_
        refine r_goto (tgt := 2) dX11_isLast_28 (by decide) ?_
        refine ih hlt (fun k hk2 => ?_)
        rcases Nat.lt_or_ge k i with q | q
        · exact hk k q
        · obtain rfl : k = i := by omega
          exact zh20
      · refine r_iconst (v := 0) rfl dX11_isLast_23 ?_
        exact r_zret hG dX11_isLast_24 (rfl) (⟨by rw [show isl (arR MI) A s = false from Bool.eq_false_iff.mpr (fun q => absurd zh20 (of_decide_eq_true (List.all_eq_true.mp q i (List.mem_range.mpr hlt))))]; rfl, rfl, rfl, rfl⟩)
  refine r_iconst (v := 0) rfl dX11_isLast_0 ?_
  refine r_istore_n (ls2 := [(2, .int 0), (0, .ref 124), (1, .int (nI s))]) dX11_isLast_1 (by decide) rfl ?_
  exact loop 0 (Nat.zero_le _) (fun k hk => absurd hk (Nat.not_lt_zero k))
set_option maxRecDepth 100000 in
theorem c_X11_last (hM : x_Lay MR) {A S : Nat} (hA : A ≤ 8) (hAr : MI 128 6 = nI A) (hS : S ≤ 6) (hSr : MI 130 0 = nI S) {x : Int32} {z : Option Nat} (hz : z = lstR (isl (arR MI) A) x S 0 0) : Cf X yX11_last cX11_last 4 (some .int) 3 [.ref 124, .int x] n SH MI ML MR (some (.int (lsA z))) (u2 MI 124 0 (lsT z)) ML MR := by
  obtain ⟨V, hV⟩ : ∃ V, V = th MI := ⟨_, rfl⟩
  have hAV : V 128 6 = nI A := by rw [hV]; exact hAr
  have hSV : V 130 0 = nI S := by rw [hV]; exact hSr
  have har : arR V = arR MI := by rw [hV]; rfl
  have c0 : (0 : Int32).toNatClampNeg = 0 := rfl
  have h1 : u2 V 124 0 1 = u2 MI 124 0 1 := by
    rw [hV]
    funext b j
    simp only [u2, th]
    grind
  have h2 : V = u2 MI 124 0 0 := hV
  refine Ct_of (by decide) (Nat.le_of_ble_eq_true rfl) (fun G hG => ?_)
  have loop : ∀ i, i ≤ S → ∀ m, lstR (isl (arR MI) A) x (S - i) i m = z → RW X G RX11 cX11_last 4 (x_rm 3 0 0) n SH V ML MR 0 0 9 [(3, .int (nI i)), (2, .int (nI m)), (0, .ref 124), (1, .int x)] [] := by
    refine bwd (fun i hi ih m hq => ?_)
    refine r_iload_n 0 rfl dX11_last_9 ?_
    refine r_aload_n 2 rfl dX11_last_10 ?_
    refine r_getr dX11_last_11 fl_X11_37 rfl (hM _ _ _ rfl) ?_
    refine r_iconst (v := 0) rfl dX11_last_14 ?_
    refine r_iald dX11_last_15 rfl (vpk (k := 0) (by decide) (by decide) rfl) ?_
    refine r_icmpge (tgt := 46) dX11_last_16 (by decide) (fun zh16 => ?_) (fun zh16 => ?_)
    · rw [c0, hSV] at zh16
      have hie : i = S := by have := geL (k := S) (by omega) (by omega) zh16; omega
      rw [hie, Nat.sub_self, lstR] at hq
      refine r_aload_n 2 rfl dX11_last_46 ?_
      refine r_iconst (v := 1) rfl dX11_last_47 ?_
      refine r_puti dX11_last_48 fl_X11_3 rfl rfl rfl ?_
      refine r_iconst (v := 0) rfl dX11_last_51 ?_
      exact r_iret hG dX11_last_52 (by rw [← hq]; exact ⟨rfl, h1, rfl, rfl⟩)
    · rw [c0, hSV] at zh16
      have hlt : i < S := ltL (by omega) zh16
      rw [show S - i = (S - (i + 1)) + 1 by omega, lstR] at hq
      refine r_aload_n 2 rfl dX11_last_19 ?_
      refine r_iload_n 0 rfl dX11_last_20 ?_
      refine r_Vf [.int _] dX11_last_21 lk_X11_508 mb_X11_isLast in_X11_isLast se_X11_isLast rfl (c_X11_isLast hM hA hAV) rfl rfl rfl (Nat.le_of_ble_eq_true rfl) (rfl) ?_
      refine r_ifne (tgt := 30) dX11_last_24 (by decide) (fun zh24 => ?_) (fun zh24 => ?_)
      · rw [har] at zh24
        have zb : isl (arR MI) A i = true := b2n.mp zh24
        rw [if_pos zb] at hq
        refine r_iload_n 1 rfl dX11_last_30 ?_
        refine r_iload_n 3 rfl dX11_last_31 ?_
        refine r_icmpne (tgt := 37) dX11_last_32 (by decide) (fun zh32 => ?_) (fun zh32 => ?_)
        · refine r_iinc (v := (nI (m + 1))) (ls2 := [(2, .int (nI (m + 1))), (3, .int (nI i)), (0, .ref 124), (1, .int x)]) 1 dX11_last_37 rfl (x_inc m) (by decide) rfl ?_
          refine r_iinc (v := (nI (i + 1))) (ls2 := [(3, .int (nI (i + 1))), (2, .int (nI (m + 1))), (0, .ref 124), (1, .int x)]) 1 dX11_last_40 rfl (x_inc i) (by decide) rfl ?_
          refine r_goto (tgt := 9) dX11_last_43 (by decide) ?_
          first
            | (rw [if_neg zh32] at hq; exact r_sub [0, 1, 2, 3] rfl (ih hlt _ hq))
            | exact r_sub [0, 1, 2, 3] rfl (ih hlt _ hq)
        · refine r_iload_n 0 rfl dX11_last_35 ?_
          exact r_iret hG dX11_last_36 (by rw [if_pos zh32] at hq; rw [← hq]; exact ⟨rfl, h2, rfl, rfl⟩)
      · rw [har] at zh24
        have zb : ¬ isl (arR MI) A i = true := by rw [b2z.mp zh24]; decide
        rw [if_neg zb] at hq
        refine r_goto (tgt := 40) dX11_last_27 (by decide) ?_
        refine r_iinc (v := (nI (i + 1))) (ls2 := [(3, .int (nI (i + 1))), (2, .int (nI m)), (0, .ref 124), (1, .int x)]) 0 dX11_last_40 rfl (x_inc i) (by decide) rfl ?_
        refine r_goto (tgt := 9) dX11_last_43 (by decide) ?_
        first
          | (rw [if_neg zh32] at hq; exact r_sub [0, 1, 2, 3] rfl (ih hlt _ hq))
          | exact r_sub [0, 1, 2, 3] rfl (ih hlt _ hq)
  refine r_aload_n 0 rfl dX11_last_0 ?_
  refine r_iconst (v := 0) rfl dX11_last_1 ?_
  refine r_puti dX11_last_2 fl_X11_3 rfl rfl rfl ?_
  refine r_mem hV.symm rfl rfl ?_
  refine r_iconst (v := 0) rfl dX11_last_5 ?_
  refine r_istore_n (ls2 := [(2, .int 0), (0, .ref 124), (1, .int x)]) dX11_last_6 (by decide) rfl ?_
  refine r_iconst (v := 0) rfl dX11_last_7 ?_
  refine r_istore_n (ls2 := [(3, .int 0), (2, .int 0), (0, .ref 124), (1, .int x)]) dX11_last_8 (by decide) rfl ?_
  exact r_sub [0, 1, 2, 3] rfl (loop 0 (Nat.zero_le _) 0 hz.symm)
set_option maxRecDepth 100000 in
theorem c_X11_feed (hM : x_Lay MR) {u : Nat} (hu : u ≤ 600) (hr : MI 124 6 = nI u) {a b c d e : Int32} : Cf X yX11_feed cX11_feed 8 (some .int) 1 [.ref 124, .int a, .int b, .int c, .int d, .int e] n SH MI ML MR (some (.int (if u + 20 ≤ 600 then nI (u + 20) else -1))) (if u + 20 ≤ 600 then rfd (th MI) u a b c d e 20 else th MI) ML MR := by
  obtain ⟨V, hV⟩ : ∃ V, V = th MI := ⟨_, rfl⟩
  have huV : V 124 6 = nI u := by rw [hV]; exact hr
  rw [← hV]
  have h20 : nI u + 20 = nI (u + 20) := nI_add u 20
  refine Ct_of (by decide) (Nat.le_of_ble_eq_true rfl) (fun G hG => ?_)
  have loop : u + 20 ≤ 600 → ∀ k, k ≤ 20 → RW X G RX11 cX11_feed 8 (x_rm 1 0 0) n SH (rfd V u a b c d e k) ML MR 0 0 23 [(6, .int (nI k)), (0, .ref 124), (1, .int a), (2, .int b), (3, .int c), (4, .int d), (5, .int e)] [] := by
    intro h6
    refine bwd (fun k hk ih => ?_)
    have h6k : rfd V u a b c d e k 124 6 = nI (u + k) := by
      unfold rfd
      rw [if_neg (by omega), if_pos ⟨rfl, rfl⟩]
    have j76 : k < 20 → ∀ x, x = sel5 a b c d e k → RW X G RX11 cX11_feed 8 (x_rm 1 0 0) n SH (rfd V u a b c d e k) ML MR 0 0 76 [(6, .int (nI k)), (0, .ref 124), (1, .int a), (2, .int b), (3, .int c), (4, .int d), (5, .int e)] [.int x] := by
      intro hlt x hx
      have hrem : nI k - nI k / 4 * 4 = nI (k % 4) := pk_rem (a := k) (d := 4) (by omega) (by decide) (by decide)
      refine r_istore (ls2 := [(7, .int x), (6, .int (nI k)), (0, .ref 124), (1, .int a), (2, .int b), (3, .int c), (4, .int d), (5, .int e)]) dX11_feed_76 (by decide) rfl ?_
      refine r_aload_n 2 rfl dX11_feed_78 ?_
      refine r_getr dX11_feed_79 fl_X11_27 rfl (hM _ _ _ rfl) ?_
      refine r_aload_n 2 rfl dX11_feed_82 ?_
      refine r_geti dX11_feed_83 fl_X11_248 rfl ?_
      refine r_iload 0 rfl dX11_feed_86 ?_
      refine r_bipush (v := 24) rfl dX11_feed_88 ?_
      refine r_bipush (v := 8) rfl dX11_feed_90 ?_
      refine r_iload 1 rfl dX11_feed_92 ?_
      refine r_iconst (v := 4) rfl dX11_feed_94 ?_
      refine r_irem (by decide) dX11_feed_95 ?_
      refine r_imul dX11_feed_96 ?_
      refine r_isub dX11_feed_97 ?_
      refine r_ishr dX11_feed_98 ?_
      refine r_i2b dX11_feed_99 ?_
      refine r_bast dX11_feed_100 rfl (by rw [h6k]; exact vp_in_nI (show u + k < 600 by omega) (by decide)) ?_
      refine r_aload_n 2 rfl dX11_feed_101 ?_
      refine r_dup rfl dX11_feed_102 ?_
      refine r_geti dX11_feed_103 fl_X11_248 rfl ?_
      refine r_iconst (v := 1) rfl dX11_feed_106 ?_
      refine r_iadd dX11_feed_107 ?_
      refine r_puti dX11_feed_108 fl_X11_248 rfl rfl rfl ?_
      refine r_iinc (v := (nI (k + 1))) (ls2 := [(6, .int (nI (k + 1))), (7, .int x), (0, .ref 124), (1, .int a), (2, .int b), (3, .int c), (4, .int d), (5, .int e)]) 1 dX11_feed_111 rfl (x_inc k) (by decide) rfl ?_
      refine r_goto (tgt := 23) dX11_feed_114 (by decide) ?_
      refine r_mem ?_ rfl rfl (r_sub [0, 2, 3, 4, 5, 6, 7] rfl (ih hlt))
      have hz : vp_nar .byte (x >>> ((24 - 8 * (nI k - nI k / 4 * 4)) &&& 31)).toInt8.toInt32 = rbV (sel5 a b c d e k) (k % 4) := by rw [hrem, hx]; rfl
      rw [hz, u2_row _ _ (show (124 : Nat) ≠ 127 by decide), h6k, nI_clamp (by omega), nI_1]
      generalize hw : rbV (sel5 a b c d e k) (k % 4) = w
      have hw2 : ∀ j, j - u = k → rbV (sel5 a b c d e (j - u)) ((j - u) % 4) = w := fun j hj => by rw [hj, hw]
      funext q j
      show (if q = 124 ∧ j = 6 then nI (u + k + 1) else if q = 127 ∧ j = u + k then w else rfd V u a b c d e k q j) = rfd V u a b c d e (k + 1) q j
      unfold rfd
      by_cases z1 : q = 124 ∧ j = 6
      · rw [if_pos z1, if_neg (by omega), if_pos z1]
        rfl
      · rw [if_neg z1]
        by_cases z2 : q = 127 ∧ j = u + k
        · rw [if_pos z2, if_pos (by omega)]
          exact (hw2 j (by omega)).symm
        · rw [if_neg z2]
          by_cases z3 : q = 127 ∧ u ≤ j ∧ j < u + k
          · rw [if_pos z3, if_pos (by omega)]
          · have z4 : ¬ (q = 127 ∧ u ≤ j ∧ j < u + (k + 1)) := by omega
            rw [if_neg z3, if_neg z4, if_neg z1, if_neg z1]
    refine r_iload 0 rfl dX11_feed_23 ?_
    refine r_bipush (v := 20) rfl dX11_feed_25 ?_
    refine r_icmpge (tgt := 117) dX11_feed_27 (by decide) (fun zh27 => ?_) (fun zh27 => ?_)
    · obtain rfl : k = 20 := by have := geL (k := 20) (by decide) (by omega) zh27; omega
      refine r_aload_n 1 rfl dX11_feed_117 ?_
      refine r_geti dX11_feed_118 fl_X11_248 rfl ?_
      exact r_iret hG dX11_feed_121 (by rw [h6k, if_pos h6, if_pos h6]; exact ⟨rfl, rfl, rfl, rfl⟩)
    · have hlt : k < 20 := ltL (by omega) zh27
      refine r_iload 0 rfl dX11_feed_30 ?_
      refine r_iconst (v := 4) rfl dX11_feed_32 ?_
      refine r_icmpge (tgt := 40) dX11_feed_33 (by decide) (fun zh33 => ?_) (fun zh33 => ?_)
      · refine r_iload 0 rfl dX11_feed_40 ?_
        refine r_bipush (v := 8) rfl dX11_feed_42 ?_
        refine r_icmpge (tgt := 51) dX11_feed_44 (by decide) (fun zh44 => ?_) (fun zh44 => ?_)
        · refine r_iload 0 rfl dX11_feed_51 ?_
          refine r_bipush (v := 12) rfl dX11_feed_53 ?_
          refine r_icmpge (tgt := 62) dX11_feed_55 (by decide) (fun zh55 => ?_) (fun zh55 => ?_)
          · refine r_iload 0 rfl dX11_feed_62 ?_
            refine r_bipush (v := 16) rfl dX11_feed_64 ?_
            refine r_icmpge (tgt := 74) dX11_feed_66 (by decide) (fun zh66 => ?_) (fun zh66 => ?_)
            · refine r_iload 6 rfl dX11_feed_74 ?_
              refine j76 hlt _ ?_
              unfold sel5
              first
                | (have z4 : ¬ k < 4 := fun z => nI_ge z (by decide) zh33
                   have z8 : ¬ k < 8 := fun z => nI_ge z (by decide) zh44
                   have z12 : ¬ k < 12 := fun z => nI_ge z (by decide) zh55
                   have z16 : ¬ k < 16 := fun z => nI_ge z (by decide) zh66
                   rw [if_neg z4, if_neg z8, if_neg z12, if_neg z16])
                | (have z4 : ¬ k < 4 := fun z => nI_ge z (by decide) zh33
                   have z8 : ¬ k < 8 := fun z => nI_ge z (by decide) zh44
                   have z12 : ¬ k < 12 := fun z => nI_ge z (by decide) zh55
                   have z16 : k < 16 := ltL (by omega) zh66
                   rw [if_neg z4, if_neg z8, if_neg z12, if_pos z16])
                | (have z4 : ¬ k < 4 := fun z => nI_ge z (by decide) zh33
                   have z8 : ¬ k < 8 := fun z => nI_ge z (by decide) zh44
                   have z12 : k < 12 := ltL (by omega) zh55
                   rw [if_neg z4, if_neg z8, if_pos z12])
                | (have z4 : ¬ k < 4 := fun z => nI_ge z (by decide) zh33
                   have z8 : k < 8 := ltL (by omega) zh44
                   rw [if_neg z4, if_pos z8])
                | (have z4 : k < 4 := ltL (by omega) zh33
                   rw [if_pos z4])
            · refine r_iload 5 rfl dX11_feed_69 ?_
              refine r_goto (tgt := 76) dX11_feed_71 (by decide) ?_
              refine j76 hlt _ ?_
              unfold sel5
              first
                | (have z4 : ¬ k < 4 := fun z => nI_ge z (by decide) zh33
                   have z8 : ¬ k < 8 := fun z => nI_ge z (by decide) zh44
                   have z12 : ¬ k < 12 := fun z => nI_ge z (by decide) zh55
                   have z16 : ¬ k < 16 := fun z => nI_ge z (by decide) zh66
                   rw [if_neg z4, if_neg z8, if_neg z12, if_neg z16])
                | (have z4 : ¬ k < 4 := fun z => nI_ge z (by decide) zh33
                   have z8 : ¬ k < 8 := fun z => nI_ge z (by decide) zh44
                   have z12 : ¬ k < 12 := fun z => nI_ge z (by decide) zh55
                   have z16 : k < 16 := ltL (by omega) zh66
                   rw [if_neg z4, if_neg z8, if_neg z12, if_pos z16])
                | (have z4 : ¬ k < 4 := fun z => nI_ge z (by decide) zh33
                   have z8 : ¬ k < 8 := fun z => nI_ge z (by decide) zh44
                   have z12 : k < 12 := ltL (by omega) zh55
                   rw [if_neg z4, if_neg z8, if_pos z12])
                | (have z4 : ¬ k < 4 := fun z => nI_ge z (by decide) zh33
                   have z8 : k < 8 := ltL (by omega) zh44
                   rw [if_neg z4, if_pos z8])
                | (have z4 : k < 4 := ltL (by omega) zh33
                   rw [if_pos z4])
          · refine r_iload_n 4 rfl dX11_feed_58 ?_
            refine r_goto (tgt := 76) dX11_feed_59 (by decide) ?_
            refine j76 hlt _ ?_
            unfold sel5
            first
              | (have z4 : ¬ k < 4 := fun z => nI_ge z (by decide) zh33
                 have z8 : ¬ k < 8 := fun z => nI_ge z (by decide) zh44
                 have z12 : ¬ k < 12 := fun z => nI_ge z (by decide) zh55
                 have z16 : ¬ k < 16 := fun z => nI_ge z (by decide) zh66
                 rw [if_neg z4, if_neg z8, if_neg z12, if_neg z16])
              | (have z4 : ¬ k < 4 := fun z => nI_ge z (by decide) zh33
                 have z8 : ¬ k < 8 := fun z => nI_ge z (by decide) zh44
                 have z12 : ¬ k < 12 := fun z => nI_ge z (by decide) zh55
                 have z16 : k < 16 := ltL (by omega) zh66
                 rw [if_neg z4, if_neg z8, if_neg z12, if_pos z16])
              | (have z4 : ¬ k < 4 := fun z => nI_ge z (by decide) zh33
                 have z8 : ¬ k < 8 := fun z => nI_ge z (by decide) zh44
                 have z12 : k < 12 := ltL (by omega) zh55
                 rw [if_neg z4, if_neg z8, if_pos z12])
              | (have z4 : ¬ k < 4 := fun z => nI_ge z (by decide) zh33
                 have z8 : k < 8 := ltL (by omega) zh44
                 rw [if_neg z4, if_pos z8])
              | (have z4 : k < 4 := ltL (by omega) zh33
                 rw [if_pos z4])
        · refine r_iload_n 3 rfl dX11_feed_47 ?_
          refine r_goto (tgt := 76) dX11_feed_48 (by decide) ?_
          refine j76 hlt _ ?_
          unfold sel5
          first
            | (have z4 : ¬ k < 4 := fun z => nI_ge z (by decide) zh33
               have z8 : ¬ k < 8 := fun z => nI_ge z (by decide) zh44
               have z12 : ¬ k < 12 := fun z => nI_ge z (by decide) zh55
               have z16 : ¬ k < 16 := fun z => nI_ge z (by decide) zh66
               rw [if_neg z4, if_neg z8, if_neg z12, if_neg z16])
            | (have z4 : ¬ k < 4 := fun z => nI_ge z (by decide) zh33
               have z8 : ¬ k < 8 := fun z => nI_ge z (by decide) zh44
               have z12 : ¬ k < 12 := fun z => nI_ge z (by decide) zh55
               have z16 : k < 16 := ltL (by omega) zh66
               rw [if_neg z4, if_neg z8, if_neg z12, if_pos z16])
            | (have z4 : ¬ k < 4 := fun z => nI_ge z (by decide) zh33
               have z8 : ¬ k < 8 := fun z => nI_ge z (by decide) zh44
               have z12 : k < 12 := ltL (by omega) zh55
               rw [if_neg z4, if_neg z8, if_pos z12])
            | (have z4 : ¬ k < 4 := fun z => nI_ge z (by decide) zh33
               have z8 : k < 8 := ltL (by omega) zh44
               rw [if_neg z4, if_pos z8])
            | (have z4 : k < 4 := ltL (by omega) zh33
               rw [if_pos z4])
      · refine r_iload_n 2 rfl dX11_feed_36 ?_
        refine r_goto (tgt := 76) dX11_feed_37 (by decide) ?_
        refine j76 hlt _ ?_
        unfold sel5
        first
          | (have z4 : ¬ k < 4 := fun z => nI_ge z (by decide) zh33
             have z8 : ¬ k < 8 := fun z => nI_ge z (by decide) zh44
             have z12 : ¬ k < 12 := fun z => nI_ge z (by decide) zh55
             have z16 : ¬ k < 16 := fun z => nI_ge z (by decide) zh66
             rw [if_neg z4, if_neg z8, if_neg z12, if_neg z16])
          | (have z4 : ¬ k < 4 := fun z => nI_ge z (by decide) zh33
             have z8 : ¬ k < 8 := fun z => nI_ge z (by decide) zh44
             have z12 : ¬ k < 12 := fun z => nI_ge z (by decide) zh55
             have z16 : k < 16 := ltL (by omega) zh66
             rw [if_neg z4, if_neg z8, if_neg z12, if_pos z16])
          | (have z4 : ¬ k < 4 := fun z => nI_ge z (by decide) zh33
             have z8 : ¬ k < 8 := fun z => nI_ge z (by decide) zh44
             have z12 : k < 12 := ltL (by omega) zh55
             rw [if_neg z4, if_neg z8, if_pos z12])
          | (have z4 : ¬ k < 4 := fun z => nI_ge z (by decide) zh33
             have z8 : k < 8 := ltL (by omega) zh44
             rw [if_neg z4, if_pos z8])
          | (have z4 : k < 4 := ltL (by omega) zh33
             rw [if_pos z4])
  have h600 : ∀ {m : Nat}, m < 2 ^ 31 → (nI m ≤ 600 ↔ m ≤ 600) := fun hm => nI_leI (b := 600) hm (by decide)
  refine r_aload_n 0 rfl dX11_feed_0 ?_
  refine r_iconst (v := 0) rfl dX11_feed_1 ?_
  refine r_puti dX11_feed_2 fl_X11_3 rfl rfl rfl ?_
  refine r_mem hV.symm rfl rfl ?_
  refine r_aload_n 0 rfl dX11_feed_5 ?_
  refine r_geti dX11_feed_6 fl_X11_248 rfl ?_
  refine r_bipush (v := 20) rfl dX11_feed_9 ?_
  refine r_iadd dX11_feed_11 ?_
  refine r_sipush (v := 600) rfl dX11_feed_12 ?_
  refine r_icmple (tgt := 20) dX11_feed_15 (by decide) (fun zh15 => ?_) (fun zh15 => ?_)
  · refine r_iconst (v := 0) rfl dX11_feed_20 ?_
    refine r_istore (ls2 := [(6, .int 0), (0, .ref 124), (1, .int a), (2, .int b), (3, .int c), (4, .int d), (5, .int e)]) dX11_feed_21 (by decide) rfl ?_
    rw [huV, h20, h600 (by omega)] at zh15
    refine r_mem ?_ rfl rfl (loop zh15 0 (by decide))
    funext q j
    unfold rfd
    rw [if_neg (by omega)]
    split
    · rename_i z
      rw [z.1, z.2, huV]
      rfl
    · rfl
  · refine r_iconst (v := (-1)) rfl dX11_feed_18 ?_
    exact r_iret hG dX11_feed_19 (by rw [huV, h20, h600 (by omega)] at zh15; rw [if_neg zh15, if_neg zh15]; exact ⟨rfl, rfl, rfl, rfl⟩)
/-- the row of the past with what is there now at its end -/
def rmP (p v : Nat → Int32) (K : Nat) : Nat → Int32 := fun j => if 88 * frK K ≤ j ∧ j < 88 * frK K + 88 then v (j - 88 * frK K) else if K < 12 then p j else if j < 968 then p (j + 88) else p j
def rmM (MI : Mi) (K : Nat) : Mi := u2 (sr MI 132 (rmP (MI 132) (MI 128) K)) 124 19 (nI (frK K + 1))
def shP (p : Nat → Int32) (i : Nat) : Nat → Int32 := fun j => if j < i then p (j + 88) else p j
def cpP (p v : Nat → Int32) (K i : Nat) : Nat → Int32 := fun j => if 88 * K ≤ j ∧ j < 88 * K + i then v (j - 88 * K) else p j
set_option maxRecDepth 100000 in
theorem c_X11_remembers (hM : x_Lay MR) {K : Nat} (hK : K ≤ 12) (hk : MI 124 19 = nI K) : Cf X yX11_remembers cX11_remembers 2 none 1 [.ref 124] n SH MI ML MR none (rmM MI K) ML MR := by
  refine Ct_of (by decide) (Nat.le_of_ble_eq_true rfl) (fun G hG => ?_)
  have l2 : ∀ (p : Nat → Int32) (Q : Nat), Q < 12 → (rmM MI K = u2 (sr MI 132 (cpP p (MI 128) Q 88)) 124 19 (nI (Q + 1))) → ∀ i, i ≤ 88 → RW X G RX11 cX11_remembers 2 (x_rm 1 0 0) n SH (u2 (sr MI 132 (cpP p (MI 128) Q i)) 124 19 (nI Q)) ML MR 0 0 51 [(1, .int (nI i)), (0, .ref 124)] [] := by
    intro p Q hQ hfin
    refine bwd (fun i hi ih => ?_)
    have e19 : u2 (sr MI 132 (cpP p (MI 128) Q i)) 124 19 (nI Q) 124 19 = nI Q := u2_eq _ _ _ _
    have e128 : u2 (sr MI 132 (cpP p (MI 128) Q i)) 124 19 (nI Q) 128 = MI 128 := by rw [u2_row _ _ (by decide), sr_ne _ _ (by decide)]
    have eix : (88 : Int32) * nI Q + nI i = nI (88 * Q + i) := by
      have h1 := pk_mul 88 Q
      have h2 := nI_add (88 * Q) i
      rw [← h1] at h2
      exact h2
    refine r_iload_n 0 rfl dX11_remembers_51 ?_
    refine r_bipush (v := 88) rfl dX11_remembers_52 ?_
    refine r_icmpge (tgt := 83) dX11_remembers_54 (by decide) (fun zh54 => ?_) (fun zh54 => ?_)
    · obtain rfl : i = 88 := by have := geL (k := 88) (by decide) (by omega) zh54; omega
      refine r_aload_n 1 rfl dX11_remembers_83 ?_
      refine r_dup rfl dX11_remembers_84 ?_
      refine r_geti dX11_remembers_85 fl_X11_261 rfl ?_
      refine r_iconst (v := 1) rfl dX11_remembers_88 ?_
      refine r_iadd dX11_remembers_89 ?_
      refine r_puti dX11_remembers_90 fl_X11_261 rfl rfl rfl ?_
      exact r_vret hG dX11_remembers_93 (by
          rw [hfin, e19, nI_1]
          refine ⟨rfl, ?_, rfl, rfl⟩
          funext b j
          simp only [u2]
          grind)
    · have hlt : i < 88 := ltL (by omega) zh54
      refine r_aload_n 1 rfl dX11_remembers_57 ?_
      refine r_getr dX11_remembers_58 fl_X11_43 rfl (hM _ _ _ rfl) ?_
      refine r_bipush (v := 88) rfl dX11_remembers_61 ?_
      refine r_aload_n 1 rfl dX11_remembers_63 ?_
      refine r_geti dX11_remembers_64 fl_X11_261 rfl ?_
      refine r_imul dX11_remembers_67 ?_
      refine r_iload_n 0 rfl dX11_remembers_68 ?_
      refine r_iadd dX11_remembers_69 ?_
      refine r_aload_n 1 rfl dX11_remembers_70 ?_
      refine r_getr dX11_remembers_71 fl_X11_31 rfl (hM _ _ _ rfl) ?_
      refine r_iload_n 0 rfl dX11_remembers_74 ?_
      refine r_iald dX11_remembers_75 rfl (vp_in_nI hlt (by decide)) ?_
      refine r_iast dX11_remembers_76 rfl (by rw [e19, eix]; exact vp_in_nI (show 88 * Q + i < 1056 by omega) (by decide)) ?_
      refine r_iinc (v := (nI (i + 1))) (ls2 := [(1, .int (nI (i + 1))), (0, .ref 124)]) 0 dX11_remembers_77 rfl (x_inc i) (by decide) rfl ?_
      refine r_goto (tgt := 51) dX11_remembers_80 (by decide) ?_
      refine r_mem ?_ rfl rfl (ih hlt)
      rw [e19, eix, e128, nI_clamp (by omega), nI_clamp (by omega)]
      have hz : ∀ j, j = 88 * Q + i → j - 88 * Q = i := fun j h => by omega
      funext b j
      simp only [u2, sr, cpP]
      grind
  have l1 : K = 12 → ∀ i, i ≤ 968 → RW X G RX11 cX11_remembers 2 (x_rm 1 0 0) n SH (sr MI 132 (shP (MI 132) i)) ML MR 0 0 11 [(1, .int (nI i)), (0, .ref 124)] [] := by
    intro h12
    refine bwd (fun i hi ih => ?_)
    have e132 : sr MI 132 (shP (MI 132) i) 132 = shP (MI 132) i := sr_eq _ _ _
    have e19 : sr MI 132 (shP (MI 132) i) 124 19 = nI 12 := by rw [sr_ne _ _ (by decide), hk, h12]
    have eix : nI i + 88 = nI (i + 88) := nI_add i 88
    refine r_iload_n 0 rfl dX11_remembers_11 ?_
    refine r_sipush (v := 968) rfl dX11_remembers_12 ?_
    refine r_icmpge (tgt := 39) dX11_remembers_15 (by decide) (fun zh15 => ?_) (fun zh15 => ?_)
    · obtain rfl : i = 968 := by have := geL (k := 968) (by decide) (by omega) zh15; omega
      refine r_aload_n 1 rfl dX11_remembers_39 ?_
      refine r_dup rfl dX11_remembers_40 ?_
      refine r_geti dX11_remembers_41 fl_X11_261 rfl ?_
      refine r_iconst (v := 1) rfl dX11_remembers_44 ?_
      refine r_isub dX11_remembers_45 ?_
      refine r_puti dX11_remembers_46 fl_X11_261 rfl rfl rfl ?_
      refine r_iconst (v := 0) rfl dX11_remembers_49 ?_
      refine r_istore_n (ls2 := [(1, .int 0), (0, .ref 124)]) dX11_remembers_50 (by decide) rfl ?_
      rw [e19]
      have q := l2 (shP (MI 132) 968) 11 (by decide) ?_ 0 (by decide)
      · refine r_mem ?_ rfl rfl q
        rw [show nI 12 - 1 = nI 11 from nI_pred 11]
        congr 1
        congr 1
        funext j
        simp only [cpP]
        grind
      · unfold rmM
        have hf : frK K = 11 := by unfold frK; rw [if_neg (by omega)]
        rw [hf]
        congr 1
        congr 1
        funext j
        simp only [rmP, cpP, shP]
        rw [hf]
        grind
    · have hlt : i < 968 := ltL (by omega) zh15
      refine r_aload_n 1 rfl dX11_remembers_18 ?_
      refine r_getr dX11_remembers_19 fl_X11_43 rfl (hM _ _ _ rfl) ?_
      refine r_iload_n 0 rfl dX11_remembers_22 ?_
      refine r_aload_n 1 rfl dX11_remembers_23 ?_
      refine r_getr dX11_remembers_24 fl_X11_43 rfl (hM _ _ _ rfl) ?_
      refine r_iload_n 0 rfl dX11_remembers_27 ?_
      refine r_bipush (v := 88) rfl dX11_remembers_28 ?_
      refine r_iadd dX11_remembers_30 ?_
      refine r_iald dX11_remembers_31 rfl (by rw [eix]; exact vp_in_nI (show i + 88 < 1056 by omega) (by decide)) ?_
      refine r_iast dX11_remembers_32 rfl (vp_in_nI (show i < 1056 by omega) (by decide)) ?_
      refine r_iinc (v := (nI (i + 1))) (ls2 := [(1, .int (nI (i + 1))), (0, .ref 124)]) 0 dX11_remembers_33 rfl (x_inc i) (by decide) rfl ?_
      refine r_goto (tgt := 11) dX11_remembers_36 (by decide) ?_
      refine r_mem ?_ rfl rfl (ih hlt)
      rw [eix, e132, nI_clamp (by omega), nI_clamp (by omega)]
      funext b j
      simp only [u2, sr, shP]
      grind
  refine r_aload_n 0 rfl dX11_remembers_0 ?_
  refine r_geti dX11_remembers_1 fl_X11_261 rfl ?_
  refine r_bipush (v := 12) rfl dX11_remembers_4 ?_
  refine r_icmpne (tgt := 49) dX11_remembers_6 (by decide) (fun zh6 => ?_) (fun zh6 => ?_)
  · refine r_iconst (v := 0) rfl dX11_remembers_49 ?_
    refine r_istore_n (ls2 := [(1, .int 0), (0, .ref 124)]) dX11_remembers_50 (by decide) rfl ?_
    rw [hk] at zh6
    have h12 : K < 12 := by
      rcases Nat.lt_or_ge K 12 with z | z
      · exact z
      · exact absurd (show nI K = 12 by rw [show K = 12 by omega]; rfl) zh6
    have q := l2 (MI 132) K h12 ?_ 0 (by decide)
    · refine r_mem ?_ rfl rfl q
      funext b j
      simp only [u2, sr, cpP]
      grind
    · unfold rmM
      have hf : frK K = K := if_pos h12
      rw [hf]
      congr 1
      congr 1
      funext j
      simp only [rmP, cpP]
      rw [hf]
      grind
  · refine r_iconst (v := 0) rfl dX11_remembers_9 ?_
    refine r_istore_n (ls2 := [(1, .int 0), (0, .ref 124)]) dX11_remembers_10 (by decide) rfl ?_
    rw [hk] at zh6
    have h12 : K = 12 := (nI_eq (b := 12) (by omega) (by decide)).mp zh6
    refine r_mem ?_ rfl rfl (l1 h12 0 (by decide))
    funext b j
    simp only [sr, shP]
    grind
/-- looks, as memory -/
def lkoS (W : Mi) (B : Nat → Nat → Int64) (S A b : Nat) : Dp × Tg := lkR (arR W) (W 128) S A (nI b) (W 130 2) (W 130 3) (B 138, B 137) (tgR W)
def lkoM (W : Mi) (B : Nat → Nat → Int64) (S A b : Nat) : Mi := u2 (u2 (zkM (laE W (lkoS W B S A b).2) 5) 124 46 (nI b)) 124 47 0
def lkoL (W : Mi) (B : Nat → Nat → Int64) (S A b : Nat) : Nat → Nat → Int64 := layD B 138 137 (lkoS W B S A b).1
set_option maxRecDepth 100000 in
theorem c_X11_done (hM : x_Lay MR) {A S b : Nat} (hA : A ≤ 8) (hS : S ≤ 6) (hSr : MI 130 0 = nI S) (hAr : MI 128 6 = nI A) (hP : okA (arR MI) A S) (hb : b < 6) (hbr : MI 130 1 = nI b) {x : Int32} : Cf X yX11_done cX11_done 2 (some .int) 7 [.ref 124, .int x] n SH MI ML MR (some (.int x)) (rfM (lkoM MI ML S A b) 0) (lkoL MI ML S A b) MR := by
  refine Ct_of (by decide) (Nat.le_of_ble_eq_true rfl) (fun G hG => ?_)
  refine r_aload_n 0 rfl dX11_done_0 ?_
  refine r_Vn [] dX11_done_1 lk_X11_264 mb_X11_looks in_X11_looks se_X11_looks rfl (c_X11_looks hM hA hS hSr hAr hP hb hbr rfl) rfl rfl rfl (Nat.le_of_ble_eq_true rfl) (rfl) ?_
  refine r_aload_n 0 rfl dX11_done_4 ?_
  refine r_iload_n 1 rfl dX11_done_5 ?_
  refine r_Vf [.int _] dX11_done_6 lk_X11_267 mb_X11_good in_X11_good se_X11_good rfl (c_X11_good) rfl rfl rfl (Nat.le_of_ble_eq_true rfl) (rfl) ?_
  exact r_iret hG dX11_done_9 (⟨rfl, rfl, rfl, rfl⟩)
set_option maxRecDepth 100000 in
theorem c_X11_recode_no (hM : x_Lay MR) {x y : Int32} (h : ¬ (rIS (th MI) x = true ∧ inB y 0 3 = true)) : Cf X yX11_recode cX11_recode 4 (some .int) 2 [.ref 124, .int x, .int y] n SH MI ML MR (some (.int (-1))) (rfM (th MI) (if rIS (th MI) x = true then 2 else 1)) ML MR := by
  obtain ⟨V, hV⟩ : ∃ V, V = th MI := ⟨_, rfl⟩
  rw [← hV] at h ⊢
  refine Ct_of (by decide) (Nat.le_of_ble_eq_true rfl) (fun G hG => ?_)
  refine r_aload_n 0 rfl dX11_recode_0 ?_
  refine r_iconst (v := 0) rfl dX11_recode_1 ?_
  refine r_puti dX11_recode_2 fl_X11_3 rfl rfl rfl ?_
  refine r_mem hV.symm rfl rfl ?_
  refine r_aload_n 0 rfl dX11_recode_5 ?_
  refine r_iload_n 1 rfl dX11_recode_6 ?_
  refine r_Vf [.int _] dX11_recode_7 lk_X11_335 mb_X11_isState in_X11_isState se_X11_isState rfl (c_X11_isState hM) rfl rfl rfl (Nat.le_of_ble_eq_true rfl) (rfl) ?_
  refine r_ifne (tgt := 19) dX11_recode_10 (by decide) (fun zh10 => ?_) (fun zh10 => ?_)
  · refine r_iload_n 2 rfl dX11_recode_19 ?_
    refine r_iconst (v := 0) rfl dX11_recode_20 ?_
    refine r_iconst (v := 3) rfl dX11_recode_21 ?_
    refine r_Sf [.int _, .int _, .int _] dX11_recode_22 lk_X11_138 mb_X11_in sc_X11_in rfl (c_X11_in) rfl (Nat.le_of_ble_eq_true rfl) (rfl) ?_
    refine r_ifne (tgt := 34) dX11_recode_25 (by decide) (fun zh25 => ?_) (fun zh25 => ?_)
    · exact absurd ⟨b2n.mp zh10, b2n.mp zh25⟩ h
    · refine r_aload_n 0 rfl dX11_recode_28 ?_
      refine r_iconst (v := 2) rfl dX11_recode_29 ?_
      refine r_Vf [.int _] dX11_recode_30 lk_X11_251 mb_X11_refused in_X11_refused se_X11_refused rfl (c_X11_refused) rfl rfl rfl (Nat.le_of_ble_eq_true rfl) (rfl) ?_
      exact r_iret hG dX11_recode_33 (by
          first
            | (have zb : rIS V x = true := b2n.mp zh10
               rw [if_pos zb]; exact ⟨rfl, rfl, rfl, rfl⟩)
            | (have zb : ¬ rIS V x = true := by rw [b2z.mp zh10]; decide
               rw [if_neg zb]; exact ⟨rfl, rfl, rfl, rfl⟩))
  · refine r_aload_n 0 rfl dX11_recode_13 ?_
    refine r_iconst (v := 1) rfl dX11_recode_14 ?_
    refine r_Vf [.int _] dX11_recode_15 lk_X11_251 mb_X11_refused in_X11_refused se_X11_refused rfl (c_X11_refused) rfl rfl rfl (Nat.le_of_ble_eq_true rfl) (rfl) ?_
    exact r_iret hG dX11_recode_18 (by
        first
          | (have zb : rIS V x = true := b2n.mp zh10
             rw [if_pos zb]; exact ⟨rfl, rfl, rfl, rfl⟩)
          | (have zb : ¬ rIS V x = true := by rw [b2z.mp zh10]; decide
             rw [if_neg zb]; exact ⟨rfl, rfl, rfl, rfl⟩))
theorem arR_c {W : Mi} {s : Nat} {y : Int32} (hs : s < 6) : arR (u2 W 128 s y) = arR W := by
  funext i j
  exact u2_ne _ _ (by omega)
theorem rmM_b {MI : Mi} {K b : Nat} (h1 : b ≠ 132) (h2 : b ≠ 124) : rmM MI K b = MI b := by
  unfold rmM
  rw [u2_row _ _ h2, sr_ne _ _ h1]
theorem rmM_f {MI : Mi} {K j : Nat} (h : j ≠ 19) : rmM MI K 124 j = MI 124 j := by
  unfold rmM
  rw [u2_ne _ _ (by omega), sr_ne _ _ (by decide)]
theorem arR_rm {MI : Mi} {K : Nat} : arR (rmM MI K) = arR MI := by
  funext i j
  show rmM MI K 128 _ = _
  rw [rmM_b (by decide) (by decide)]
set_option maxRecDepth 100000 in
theorem c_X11_recode (hM : x_Lay MR) {A S b K s : Nat} (hA : A ≤ 8) (hS : S ≤ 6) (hSr : MI 130 0 = nI S) (hAr : MI 128 6 = nI A) (hP : okA (arR MI) A S) (hb : b < 6) (hbr : MI 130 1 = nI b) (hK : K ≤ 12) (hk : MI 124 19 = nI K) (hs : s < S) (h20 : ¬ MI 124 20 = 0) {y : Int32} (hy : inB y 0 3 = true) {W : Mi} (hW : W = u2 (rmM (th MI) K) 128 s y) : Cf X yX11_recode cX11_recode 4 (some .int) 8 [.ref 124, .int (nI s), .int y] n SH MI ML MR (some (.int (MI 128 s))) (rfM (lkoM W ML S A b) 0) (lkoL W ML S A b) MR := by
  obtain ⟨V, hV⟩ : ∃ V, V = th MI := ⟨_, rfl⟩
  have hv128 : V 128 = MI 128 := by rw [hV]; rfl
  have hv130 : V 130 = MI 130 := by rw [hV]; rfl
  have harV : arR V = arR MI := by rw [hV]; rfl
  have hvS : rIS V (nI s) = true := by
    unfold rIS
    rw [hv130, hSr, show inR (nI s) (nI S) = true from inR_nI hs (by omega), show decide (¬ V 124 20 = 0) = true from decide_eq_true (by rw [hV]; exact h20)]
    rfl
  rw [← hV] at hW
  have w130 : W 130 = MI 130 := by rw [hW, u2_row _ _ (by decide), rmM_b (by decide) (by decide), hv130]
  have warR : arR W = arR MI := by rw [hW, arR_c (by omega), arR_rm, harV]
  have w6 : W 128 6 = nI A := by rw [hW, u2_ne _ _ (by omega), rmM_b (by decide) (by decide), hv128, hAr]
  have cs : (nI s).toNatClampNeg = s := nI_clamp (by omega)
  have hrow : rmM V K 128 = MI 128 := by rw [rmM_b (by decide) (by decide), hv128]
  refine Ct_of (by decide) (Nat.le_of_ble_eq_true rfl) (fun G hG => ?_)
  refine r_aload_n 0 rfl dX11_recode_0 ?_
  refine r_iconst (v := 0) rfl dX11_recode_1 ?_
  refine r_puti dX11_recode_2 fl_X11_3 rfl rfl rfl ?_
  refine r_mem hV.symm rfl rfl ?_
  refine r_aload_n 0 rfl dX11_recode_5 ?_
  refine r_iload_n 1 rfl dX11_recode_6 ?_
  refine r_Vf [.int _] dX11_recode_7 lk_X11_335 mb_X11_isState in_X11_isState se_X11_isState rfl (c_X11_isState hM) rfl rfl rfl (Nat.le_of_ble_eq_true rfl) (rfl) ?_
  refine r_ifne (tgt := 19) dX11_recode_10 (by decide) (fun zh10 => ?_) (fun zh10 => ?_)
  rotate_left
  · exact absurd zh10 (b2n.mpr hvS)
  refine r_iload_n 2 rfl dX11_recode_19 ?_
  refine r_iconst (v := 0) rfl dX11_recode_20 ?_
  refine r_iconst (v := 3) rfl dX11_recode_21 ?_
  refine r_Sf [.int _, .int _, .int _] dX11_recode_22 lk_X11_138 mb_X11_in sc_X11_in rfl (c_X11_in) rfl (Nat.le_of_ble_eq_true rfl) (rfl) ?_
  refine r_ifne (tgt := 34) dX11_recode_25 (by decide) (fun zh25 => ?_) (fun zh25 => ?_)
  rotate_left
  · exact absurd zh25 (b2n.mpr hy)
  refine r_aload_n 0 rfl dX11_recode_34 ?_
  refine r_Vn [] dX11_recode_35 lk_X11_502 mb_X11_remembers in_X11_remembers se_X11_remembers rfl (c_X11_remembers hM hK (by rw [hV]; exact hk)) rfl rfl rfl (Nat.le_of_ble_eq_true rfl) (rfl) ?_
  refine r_aload_n 0 rfl dX11_recode_38 ?_
  refine r_getr dX11_recode_39 fl_X11_31 rfl (hM _ _ _ rfl) ?_
  refine r_iload_n 1 rfl dX11_recode_42 ?_
  refine r_iald dX11_recode_43 rfl (vp_in_nI (show s < 88 by omega) (by decide)) ?_
  rw [hrow, cs]
  refine r_istore_n (ls2 := [(3, .int (MI 128 s)), (0, .ref 124), (1, .int (nI s)), (2, .int y)]) dX11_recode_44 (by decide) rfl ?_
  refine r_aload_n 1 rfl dX11_recode_45 ?_
  refine r_getr dX11_recode_46 fl_X11_31 rfl (hM _ _ _ rfl) ?_
  refine r_iload_n 2 rfl dX11_recode_49 ?_
  refine r_iload_n 3 rfl dX11_recode_50 ?_
  refine r_iast dX11_recode_51 rfl (vp_in_nI (show s < 88 by omega) (by decide)) ?_
  refine r_mem (show _ = W by rw [hW, cs]) rfl rfl ?_
  refine r_aload_n 1 rfl dX11_recode_52 ?_
  refine r_iload_n 0 rfl dX11_recode_53 ?_
  refine r_Vf [.int _] dX11_recode_54 lk_X11_505 mb_X11_done in_X11_done se_X11_done rfl (c_X11_done hM hA hS (by rw [w130]; exact hSr) w6 (by rw [warR]; exact hP) hb (by rw [w130]; exact hbr)) rfl rfl rfl (Nat.le_of_ble_eq_true rfl) (rfl) ?_
  exact r_iret hG dX11_recode_57 (⟨rfl, rfl, rfl, rfl⟩)
set_option maxRecDepth 100000 in
theorem c_X11_strike_no (hM : x_Lay MR) {x : Int32} (h : ¬ rIA (th MI) x = true) : Cf X yX11_strike cX11_strike 3 (some .int) 2 [.ref 124, .int x] n SH MI ML MR (some (.int (-1))) (rfM (th MI) 1) ML MR := by
  obtain ⟨V, hV⟩ : ∃ V, V = th MI := ⟨_, rfl⟩
  rw [← hV] at h ⊢
  refine Ct_of (by decide) (Nat.le_of_ble_eq_true rfl) (fun G hG => ?_)
  refine r_aload_n 0 rfl dX11_strike_0 ?_
  refine r_iconst (v := 0) rfl dX11_strike_1 ?_
  refine r_puti dX11_strike_2 fl_X11_3 rfl rfl rfl ?_
  refine r_mem hV.symm rfl rfl ?_
  refine r_aload_n 0 rfl dX11_strike_5 ?_
  refine r_iload_n 1 rfl dX11_strike_6 ?_
  refine r_Vf [.int _] dX11_strike_7 lk_X11_338 mb_X11_isArc in_X11_isArc se_X11_isArc rfl (c_X11_isArc hM) rfl rfl rfl (Nat.le_of_ble_eq_true rfl) (rfl) ?_
  refine r_ifne (tgt := 19) dX11_strike_10 (by decide) (fun zh10 => ?_) (fun zh10 => ?_)
  · exact absurd zh10 (fun q => h (b2n.mp q))
  refine r_aload_n 0 rfl dX11_strike_13 ?_
  refine r_iconst (v := 1) rfl dX11_strike_14 ?_
  refine r_Vf [.int _] dX11_strike_15 lk_X11_251 mb_X11_refused in_X11_refused se_X11_refused rfl (c_X11_refused) rfl rfl rfl (Nat.le_of_ble_eq_true rfl) (rfl) ?_
  exact r_iret hG dX11_strike_18 (⟨rfl, rfl, rfl, rfl⟩)
def skR6 (v : Nat → Int32) (r i : Nat) : Nat → Int32 := fun j => if 7 + 6 * r ≤ j ∧ j < i then v (j + 6) else v j
/-- an ARC struck out of the row -/
def skV (v : Nat → Int32) (r A : Nat) : Nat → Int32 := fun j => if j = 6 then nI (A - 1) else skR6 v r 49 j
set_option maxRecDepth 100000 in
theorem c_X11_strike (hM : x_Lay MR) {A S b K r : Nat} (hA : A ≤ 8) (hS : S ≤ 6) (hSr : MI 130 0 = nI S) (hAr : MI 128 6 = nI A) (hP : okA (arR MI) A S) (hb : b < 6) (hbr : MI 130 1 = nI b) (hK : K ≤ 12) (hk : MI 124 19 = nI K) (hr : r < A) (h20 : ¬ MI 124 20 = 0) {W : Mi} (hW : W = sr (rmM (th MI) K) 128 (skV (MI 128) r A)) : Cf X yX11_strike cX11_strike 3 (some .int) 8 [.ref 124, .int (nI r)] n SH MI ML MR (some (.int (nI (A - 1)))) (rfM (lkoM W ML S (A - 1) b) 0) (lkoL W ML S (A - 1) b) MR := by
  obtain ⟨V, hV⟩ : ∃ V, V = th MI := ⟨_, rfl⟩
  have c6 : (6 : Int32).toNatClampNeg = 6 := rfl
  have hv128 : V 128 = MI 128 := by rw [hV]; rfl
  have hv130 : V 130 = MI 130 := by rw [hV]; rfl
  have hvA : rIA V (nI r) = true := by
    unfold rIA
    rw [hv128, hAr, show inR (nI r) (nI A) = true from inR_nI hr (by omega), show decide (¬ V 124 20 = 0) = true from decide_eq_true (by rw [hV]; exact h20)]
    rfl
  rw [← hV] at hW
  have hrow : rmM V K 128 = MI 128 := by rw [rmM_b (by decide) (by decide), hv128]
  have w130 : W 130 = MI 130 := by rw [hW, sr_ne _ _ (by decide), rmM_b (by decide) (by decide), hv130]
  have w128 : W 128 = skV (MI 128) r A := by rw [hW, sr_eq]
  have w6 : W 128 6 = nI (A - 1) := by rw [w128]; rfl
  have warR : ∀ i, i < A - 1 → ∀ j, j < 6 → arR W i j = arR MI (if i < r then i else i + 1) j := fun i hi j hj => by
    show W 128 (7 + 6 * i + j) = _
    rw [w128]
    unfold skV skR6
    rw [if_neg (by omega)]
    by_cases z : i < r
    · rw [if_neg (by omega), if_pos z]
    · rw [if_pos (by omega), if_neg z, show 7 + 6 * i + j + 6 = 7 + 6 * (i + 1) + j by omega]
  have wP : okA (arR W) (A - 1) S := fun i hi => by
    rw [warR i hi 0 (by decide), warR i hi 1 (by decide)]
    exact hP _ (by split <;> omega)
  have hsub : nI A - 1 = nI (A - 1) := by have h := nI_pred (A - 1); rw [show A - 1 + 1 = A by omega] at h; exact h
  have hi7 : (7 : Int32) + 6 * nI r = nI (7 + 6 * r) := by
    have h1 := pk_mul 6 r
    have h2 := nI_add 7 (6 * r)
    rw [← h1] at h2
    exact h2
  refine Ct_of (by decide) (Nat.le_of_ble_eq_true rfl) (fun G hG => ?_)
  have loop : ∀ i, i ≤ 49 → 7 + 6 * r ≤ i → RW X G RX11 cX11_strike 3 (x_rm 8 0 0) n SH (sr (rmM V K) 128 (skR6 (MI 128) r i)) ML MR 0 0 31 [(2, .int (nI i)), (0, .ref 124), (1, .int (nI r))] [] := by
    refine bwd (fun i hi ih hge => ?_)
    have e128 : sr (rmM V K) 128 (skR6 (MI 128) r i) 128 = skR6 (MI 128) r i := sr_eq _ _ _
    have eix : nI i + 6 = nI (i + 6) := nI_add i 6
    have e6 : skR6 (MI 128) r i 6 = nI A := by unfold skR6; rw [if_neg (by omega), hAr]
    refine r_iload_n 0 rfl dX11_strike_31 ?_
    refine r_bipush (v := 49) rfl dX11_strike_32 ?_
    refine r_icmpge (tgt := 58) dX11_strike_34 (by decide) (fun zh34 => ?_) (fun zh34 => ?_)
    · obtain rfl : i = 49 := by have := geL (k := 49) (by decide) (by omega) zh34; omega
      refine r_aload_n 1 rfl dX11_strike_58 ?_
      refine r_getr dX11_strike_59 fl_X11_31 rfl (hM _ _ _ rfl) ?_
      refine r_bipush (v := 6) rfl dX11_strike_62 ?_
      refine r_dup2 rfl rfl dX11_strike_64 ?_
      refine r_iald dX11_strike_65 rfl (vpk (k := 6) (by decide) (by decide) rfl) ?_
      rw [c6, e128, e6]
      refine r_iconst (v := 1) rfl dX11_strike_66 ?_
      refine r_isub dX11_strike_67 ?_
      rw [hsub]
      refine r_iast dX11_strike_68 rfl (vpk (k := 6) (by decide) (by decide) rfl) ?_
      refine r_mem (MI2 := W) ?_ rfl rfl ?_
      · rw [hW, c6]
        funext b j
        simp only [u2, sr, skV]
        grind
      refine r_aload_n 1 rfl dX11_strike_69 ?_
      refine r_aload_n 1 rfl dX11_strike_70 ?_
      refine r_getr dX11_strike_71 fl_X11_31 rfl (hM _ _ _ rfl) ?_
      refine r_bipush (v := 6) rfl dX11_strike_74 ?_
      refine r_iald dX11_strike_76 rfl (vpk (k := 6) (by decide) (by decide) rfl) ?_
      rw [c6, w6]
      refine r_Vf [.int _] dX11_strike_77 lk_X11_505 mb_X11_done in_X11_done se_X11_done rfl (c_X11_done hM (show A - 1 ≤ 8 by omega) hS (by rw [w130]; exact hSr) w6 wP hb (by rw [w130]; exact hbr)) rfl rfl rfl (Nat.le_of_ble_eq_true rfl) (rfl) ?_
      exact r_iret hG dX11_strike_80 (⟨rfl, rfl, rfl, rfl⟩)
    · have hlt : i < 49 := ltL (by omega) zh34
      refine r_aload_n 1 rfl dX11_strike_37 ?_
      refine r_getr dX11_strike_38 fl_X11_31 rfl (hM _ _ _ rfl) ?_
      refine r_iload_n 0 rfl dX11_strike_41 ?_
      refine r_aload_n 1 rfl dX11_strike_42 ?_
      refine r_getr dX11_strike_43 fl_X11_31 rfl (hM _ _ _ rfl) ?_
      refine r_iload_n 0 rfl dX11_strike_46 ?_
      refine r_bipush (v := 6) rfl dX11_strike_47 ?_
      refine r_iadd dX11_strike_49 ?_
      refine r_iald dX11_strike_50 rfl (by rw [eix]; exact vp_in_nI (show i + 6 < 88 by omega) (by decide)) ?_
      refine r_iast dX11_strike_51 rfl (vp_in_nI (show i < 88 by omega) (by decide)) ?_
      refine r_iinc (v := (nI (i + 1))) (ls2 := [(2, .int (nI (i + 1))), (0, .ref 124), (1, .int (nI r))]) 0 dX11_strike_52 rfl (x_inc i) (by decide) rfl ?_
      refine r_goto (tgt := 31) dX11_strike_55 (by decide) ?_
      refine r_mem ?_ rfl rfl (ih hlt (by omega))
      rw [eix, e128, nI_clamp (by omega), nI_clamp (by omega)]
      funext b j
      simp only [u2, sr, skR6]
      grind
  refine r_aload_n 0 rfl dX11_strike_0 ?_
  refine r_iconst (v := 0) rfl dX11_strike_1 ?_
  refine r_puti dX11_strike_2 fl_X11_3 rfl rfl rfl ?_
  refine r_mem hV.symm rfl rfl ?_
  refine r_aload_n 0 rfl dX11_strike_5 ?_
  refine r_iload_n 1 rfl dX11_strike_6 ?_
  refine r_Vf [.int _] dX11_strike_7 lk_X11_338 mb_X11_isArc in_X11_isArc se_X11_isArc rfl (c_X11_isArc hM) rfl rfl rfl (Nat.le_of_ble_eq_true rfl) (rfl) ?_
  refine r_ifne (tgt := 19) dX11_strike_10 (by decide) (fun zh10 => ?_) (fun zh10 => ?_)
  rotate_left
  · exact absurd zh10 (b2n.mpr hvA)
  refine r_aload_n 0 rfl dX11_strike_19 ?_
  refine r_Vn [] dX11_strike_20 lk_X11_502 mb_X11_remembers in_X11_remembers se_X11_remembers rfl (c_X11_remembers hM hK (by rw [hV]; exact hk)) rfl rfl rfl (Nat.le_of_ble_eq_true rfl) (rfl) ?_
  refine r_bipush (v := 7) rfl dX11_strike_23 ?_
  refine r_bipush (v := 6) rfl dX11_strike_25 ?_
  refine r_iload_n 1 rfl dX11_strike_27 ?_
  refine r_imul dX11_strike_28 ?_
  refine r_iadd dX11_strike_29 ?_
  rw [hi7]
  refine r_istore_n (ls2 := [(2, .int (nI (7 + 6 * r))), (0, .ref 124), (1, .int (nI r))]) dX11_strike_30 (by decide) rfl ?_
  refine r_mem ?_ rfl rfl (r_sub [0, 1, 2] rfl (loop (7 + 6 * r) (by omega) (Nat.le_refl _)))
  have e : skR6 (MI 128) r (7 + 6 * r) = rmM V K 128 := by
    rw [hrow]
    funext j
    unfold skR6
    rw [if_neg (by omega)]
  rw [e, sr_id]
end racts

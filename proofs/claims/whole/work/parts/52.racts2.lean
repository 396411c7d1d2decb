/-! the reference: gates that come, undone; machine -/
section racts2
variable {X : xG} {n : Nat} {MI : Nat → Nat → Int32} {ML : Nat → Nat → Int64} {MR : Nat → Nat → Option Nat}
def radN (V : Mi) (x y : Int32) : Int32 := if rIF V x = true then (if inB y 0 728 = true then 3 else 2) else 1
set_option maxRecDepth 100000 in
theorem c_X11_add_no (hM : x_Lay MR) {g : Nat} (hg : g ≤ 16) (hgr : MI 128 55 = nI g) {x y : Int32} (h : ¬ (rIF (th MI) x = true ∧ inB y 0 728 = true ∧ g < 16)) : Cf X yX11_add cX11_add 3 (some .int) 3 [.ref 124, .int x, .int y] n SH MI ML MR (some (.int (-1))) (rfM (th MI) (radN (th MI) x y)) ML MR := by
  obtain ⟨V, hV⟩ : ∃ V, V = th MI := ⟨_, rfl⟩
  have hgV : V 128 55 = nI g := by rw [hV]; exact hgr
  have c55 : (55 : Int32).toNatClampNeg = 55 := rfl
  rw [← hV] at h ⊢
  refine Ct_of (by decide) (Nat.le_of_ble_eq_true rfl) (fun G hG => ?_)
  refine r_aload_n 0 rfl dX11_add_0 ?_
  refine r_iconst (v := 0) rfl dX11_add_1 ?_
  refine r_puti dX11_add_2 fl_X11_3 rfl rfl rfl ?_
  refine r_mem hV.symm rfl rfl ?_
  refine r_aload_n 0 rfl dX11_add_5 ?_
  refine r_iload_n 1 rfl dX11_add_6 ?_
  refine r_Vf [.int _] dX11_add_7 lk_X11_341 mb_X11_isFunction in_X11_isFunction se_X11_isFunction rfl (c_X11_isFunction) rfl rfl rfl (Nat.le_of_ble_eq_true rfl) (rfl) ?_
  refine r_ifne (tgt := 19) dX11_add_10 (by decide) (fun zh10 => ?_) (fun zh10 => ?_)
  · refine r_iload_n 2 rfl dX11_add_19 ?_
    refine r_iconst (v := 0) rfl dX11_add_20 ?_
    refine r_sipush (v := 728) rfl dX11_add_21 ?_
    refine r_Sf [.int _, .int _, .int _] dX11_add_24 lk_X11_138 mb_X11_in sc_X11_in rfl (c_X11_in) rfl (Nat.le_of_ble_eq_true rfl) (rfl) ?_
    refine r_ifne (tgt := 36) dX11_add_27 (by decide) (fun zh27 => ?_) (fun zh27 => ?_)
    · refine r_aload_n 0 rfl dX11_add_36 ?_
      refine r_getr dX11_add_37 fl_X11_31 rfl (hM _ _ _ rfl) ?_
      refine r_bipush (v := 55) rfl dX11_add_40 ?_
      refine r_iald dX11_add_42 rfl (vpk (k := 55) (by decide) (by decide) rfl) ?_
      refine r_bipush (v := 16) rfl dX11_add_43 ?_
      refine r_icmpne (tgt := 54) dX11_add_45 (by decide) (fun zh45 => ?_) (fun zh45 => ?_)
      · rw [c55, hgV] at zh45
        refine absurd ⟨b2n.mp zh10, b2n.mp zh27, ?_⟩ h
        rcases Nat.lt_or_ge g 16 with z | z
        · exact z
        · exact absurd (show nI g = 16 by rw [show g = 16 by omega]; rfl) zh45
      · refine r_aload_n 0 rfl dX11_add_48 ?_
        refine r_iconst (v := 3) rfl dX11_add_49 ?_
        refine r_Vf [.int _] dX11_add_50 lk_X11_251 mb_X11_refused in_X11_refused se_X11_refused rfl (c_X11_refused) rfl rfl rfl (Nat.le_of_ble_eq_true rfl) (rfl) ?_
        exact r_iret hG dX11_add_53 (by
            unfold radN
            first
              | (have zb : rIF V x = true := b2n.mp zh10
                 have zc : inB y 0 728 = true := b2n.mp zh27
                 rw [if_pos zb, if_pos zc]; exact ⟨rfl, rfl, rfl, rfl⟩)
              | (have zb : rIF V x = true := b2n.mp zh10
                 have zc : ¬ inB y 0 728 = true := by rw [b2z.mp zh27]; decide
                 rw [if_pos zb, if_neg zc]; exact ⟨rfl, rfl, rfl, rfl⟩)
              | (have zb : ¬ rIF V x = true := by rw [b2z.mp zh10]; decide
                 rw [if_neg zb]; exact ⟨rfl, rfl, rfl, rfl⟩))
    · refine r_aload_n 0 rfl dX11_add_30 ?_
      refine r_iconst (v := 2) rfl dX11_add_31 ?_
      refine r_Vf [.int _] dX11_add_32 lk_X11_251 mb_X11_refused in_X11_refused se_X11_refused rfl (c_X11_refused) rfl rfl rfl (Nat.le_of_ble_eq_true rfl) (rfl) ?_
      exact r_iret hG dX11_add_35 (by
          unfold radN
          first
            | (have zb : rIF V x = true := b2n.mp zh10
               have zc : inB y 0 728 = true := b2n.mp zh27
               rw [if_pos zb, if_pos zc]; exact ⟨rfl, rfl, rfl, rfl⟩)
            | (have zb : rIF V x = true := b2n.mp zh10
               have zc : ¬ inB y 0 728 = true := by rw [b2z.mp zh27]; decide
               rw [if_pos zb, if_neg zc]; exact ⟨rfl, rfl, rfl, rfl⟩)
            | (have zb : ¬ rIF V x = true := by rw [b2z.mp zh10]; decide
               rw [if_neg zb]; exact ⟨rfl, rfl, rfl, rfl⟩))
  · refine r_aload_n 0 rfl dX11_add_13 ?_
    refine r_iconst (v := 1) rfl dX11_add_14 ?_
    refine r_Vf [.int _] dX11_add_15 lk_X11_251 mb_X11_refused in_X11_refused se_X11_refused rfl (c_X11_refused) rfl rfl rfl (Nat.le_of_ble_eq_true rfl) (rfl) ?_
    exact r_iret hG dX11_add_18 (by
        unfold radN
        first
          | (have zb : rIF V x = true := b2n.mp zh10
             have zc : inB y 0 728 = true := b2n.mp zh27
             rw [if_pos zb, if_pos zc]; exact ⟨rfl, rfl, rfl, rfl⟩)
          | (have zb : rIF V x = true := b2n.mp zh10
             have zc : ¬ inB y 0 728 = true := by rw [b2z.mp zh27]; decide
             rw [if_pos zb, if_neg zc]; exact ⟨rfl, rfl, rfl, rfl⟩)
          | (have zb : ¬ rIF V x = true := by rw [b2z.mp zh10]; decide
             rw [if_neg zb]; exact ⟨rfl, rfl, rfl, rfl⟩))
set_option maxRecDepth 100000 in
theorem c_X11_add (hM : x_Lay MR) {A S b K g : Nat} (hA : A ≤ 8) (hS : S ≤ 6) (hSr : MI 130 0 = nI S) (hAr : MI 128 6 = nI A) (hP : okA (arR MI) A S) (hb : b < 6) (hbr : MI 130 1 = nI b) (hK : K ≤ 12) (hk : MI 124 19 = nI K) (hg : g < 16) (hgr : MI 128 55 = nI g) {x y : Int32} (hx : rIF (th MI) x = true) (hy : inB y 0 728 = true) {W : Mi} (hW : W = u2 (u2 (u2 (rmM (th MI) K) 128 (56 + 2 * g) x) 128 (56 + 2 * g + 1) y) 128 55 (nI (g + 1))) : Cf X yX11_add cX11_add 3 (some .int) 8 [.ref 124, .int x, .int y] n SH MI ML MR (some (.int (nI (g + 1)))) (rfM (lkoM W ML S A b) 0) (lkoL W ML S A b) MR := by
  obtain ⟨V, hV⟩ : ∃ V, V = th MI := ⟨_, rfl⟩
  have c55 : (55 : Int32).toNatClampNeg = 55 := rfl
  have hv128 : V 128 = MI 128 := by rw [hV]; rfl
  have hv130 : V 130 = MI 130 := by rw [hV]; rfl
  have harV : arR V = arR MI := by rw [hV]; rfl
  rw [← hV] at hW hx
  have hrow : rmM V K 128 = MI 128 := by rw [rmM_b (by decide) (by decide), hv128]
  have w130 : W 130 = MI 130 := by rw [hW, u2_row _ _ (by decide), u2_row _ _ (by decide), u2_row _ _ (by decide), rmM_b (by decide) (by decide), hv130]
  have warR : ∀ i, i < A → ∀ j, j < 6 → arR W i j = arR MI i j := fun i hi j hj => by
    show W 128 (7 + 6 * i + j) = _
    rw [hW, u2_ne _ _ (by omega), u2_ne _ _ (by omega), u2_ne _ _ (by omega), hrow]
  have wP : okA (arR W) A S := fun i hi => by
    rw [warR i hi 0 (by decide), warR i hi 1 (by decide)]
    exact hP i hi
  have w6 : W 128 6 = nI A := by rw [hW, u2_ne _ _ (by omega), u2_ne _ _ (by omega), u2_ne _ _ (by omega), hrow, hAr]
  have w55 : W 128 55 = nI (g + 1) := by rw [hW]; exact u2_eq _ _ _ _
  have i0 : (56 : Int32) + 2 * nI g = nI (56 + 2 * g) := by
    have h1 := pk_mul 2 g
    have h2 := nI_add 56 (2 * g)
    rw [← h1] at h2
    exact h2
  have i1 : nI (56 + 2 * g) + 1 = nI (56 + 2 * g + 1) := nI_1 _
  have k0 : (nI (56 + 2 * g)).toNatClampNeg = 56 + 2 * g := nI_clamp (by omega)
  have k1 : (nI (56 + 2 * g + 1)).toNatClampNeg = 56 + 2 * g + 1 := nI_clamp (by omega)
  have g0 : rmM V K 128 55 = nI g := by rw [hrow, hgr]
  have g1 : ∀ z, u2 (rmM V K) 128 (56 + 2 * g) z 128 55 = nI g := fun z => by rw [u2_ne _ _ (by omega), g0]
  have g2 : ∀ z w, u2 (u2 (rmM V K) 128 (56 + 2 * g) z) 128 (56 + 2 * g + 1) w 128 55 = nI g := fun z w => by rw [u2_ne _ _ (by omega), g1]
  refine Ct_of (by decide) (Nat.le_of_ble_eq_true rfl) (fun G hG => ?_)
  refine r_aload_n 0 rfl dX11_add_0 ?_
  refine r_iconst (v := 0) rfl dX11_add_1 ?_
  refine r_puti dX11_add_2 fl_X11_3 rfl rfl rfl ?_
  refine r_mem hV.symm rfl rfl ?_
  refine r_aload_n 0 rfl dX11_add_5 ?_
  refine r_iload_n 1 rfl dX11_add_6 ?_
  refine r_Vf [.int _] dX11_add_7 lk_X11_341 mb_X11_isFunction in_X11_isFunction se_X11_isFunction rfl (c_X11_isFunction) rfl rfl rfl (Nat.le_of_ble_eq_true rfl) (rfl) ?_
  refine r_ifne (tgt := 19) dX11_add_10 (by decide) (fun zh10 => ?_) (fun zh10 => ?_)
  rotate_left
  · exact absurd zh10 (b2n.mpr hx)
  refine r_iload_n 2 rfl dX11_add_19 ?_
  refine r_iconst (v := 0) rfl dX11_add_20 ?_
  refine r_sipush (v := 728) rfl dX11_add_21 ?_
  refine r_Sf [.int _, .int _, .int _] dX11_add_24 lk_X11_138 mb_X11_in sc_X11_in rfl (c_X11_in) rfl (Nat.le_of_ble_eq_true rfl) (rfl) ?_
  refine r_ifne (tgt := 36) dX11_add_27 (by decide) (fun zh27 => ?_) (fun zh27 => ?_)
  rotate_left
  · exact absurd zh27 (b2n.mpr hy)
  refine r_aload_n 0 rfl dX11_add_36 ?_
  refine r_getr dX11_add_37 fl_X11_31 rfl (hM _ _ _ rfl) ?_
  refine r_bipush (v := 55) rfl dX11_add_40 ?_
  refine r_iald dX11_add_42 rfl (vpk (k := 55) (by decide) (by decide) rfl) ?_
  refine r_bipush (v := 16) rfl dX11_add_43 ?_
  refine r_icmpne (tgt := 54) dX11_add_45 (by decide) (fun zh45 => ?_) (fun zh45 => ?_)
  rotate_left
  · exact absurd zh45 (fun q => absurd (show nI g = 16 from by rw [c55, hv128, hgr] at q; exact q) (fun e => absurd ((nI_eq (b := 16) (by omega) (by decide)).mp e) (by omega)))
  refine r_aload_n 0 rfl dX11_add_54 ?_
  refine r_Vn [] dX11_add_55 lk_X11_502 mb_X11_remembers in_X11_remembers se_X11_remembers rfl (c_X11_remembers hM hK (by rw [hV]; exact hk)) rfl rfl rfl (Nat.le_of_ble_eq_true rfl) (rfl) ?_
  refine r_aload_n 0 rfl dX11_add_58 ?_
  refine r_getr dX11_add_59 fl_X11_31 rfl (hM _ _ _ rfl) ?_
  refine r_bipush (v := 56) rfl dX11_add_62 ?_
  refine r_iconst (v := 2) rfl dX11_add_64 ?_
  refine r_aload_n 0 rfl dX11_add_65 ?_
  refine r_getr dX11_add_66 fl_X11_31 rfl (hM _ _ _ rfl) ?_
  refine r_bipush (v := 55) rfl dX11_add_69 ?_
  refine r_iald dX11_add_71 rfl (vpk (k := 55) (by decide) (by decide) rfl) ?_
  rw [c55, g0]
  refine r_imul dX11_add_72 ?_
  refine r_iadd dX11_add_73 ?_
  rw [i0]
  refine r_iload_n 1 rfl dX11_add_74 ?_
  refine r_iast dX11_add_75 rfl (vp_in_nI (show 56 + 2 * g < 88 by omega) (by decide)) ?_
  rw [k0]
  refine r_aload_n 0 rfl dX11_add_76 ?_
  refine r_getr dX11_add_77 fl_X11_31 rfl (hM _ _ _ rfl) ?_
  refine r_bipush (v := 56) rfl dX11_add_80 ?_
  refine r_iconst (v := 2) rfl dX11_add_82 ?_
  refine r_aload_n 0 rfl dX11_add_83 ?_
  refine r_getr dX11_add_84 fl_X11_31 rfl (hM _ _ _ rfl) ?_
  refine r_bipush (v := 55) rfl dX11_add_87 ?_
  refine r_iald dX11_add_89 rfl (vpk (k := 55) (by decide) (by decide) rfl) ?_
  rw [c55, g1]
  refine r_imul dX11_add_90 ?_
  refine r_iadd dX11_add_91 ?_
  rw [i0]
  refine r_iconst (v := 1) rfl dX11_add_92 ?_
  refine r_iadd dX11_add_93 ?_
  rw [i1]
  refine r_iload_n 2 rfl dX11_add_94 ?_
  refine r_iast dX11_add_95 rfl (vp_in_nI (show 56 + 2 * g + 1 < 88 by omega) (by decide)) ?_
  rw [k1]
  refine r_aload_n 0 rfl dX11_add_96 ?_
  refine r_getr dX11_add_97 fl_X11_31 rfl (hM _ _ _ rfl) ?_
  refine r_bipush (v := 55) rfl dX11_add_100 ?_
  refine r_dup2 rfl rfl dX11_add_102 ?_
  refine r_iald dX11_add_103 rfl (vpk (k := 55) (by decide) (by decide) rfl) ?_
  rw [c55, g2]
  refine r_iconst (v := 1) rfl dX11_add_104 ?_
  refine r_iadd dX11_add_105 ?_
  rw [nI_1]
  refine r_iast dX11_add_106 rfl (vpk (k := 55) (by decide) (by decide) rfl) ?_
  refine r_mem (show _ = W from hW.symm) rfl rfl ?_
  refine r_aload_n 0 rfl dX11_add_107 ?_
  refine r_aload_n 0 rfl dX11_add_108 ?_
  refine r_getr dX11_add_109 fl_X11_31 rfl (hM _ _ _ rfl) ?_
  refine r_bipush (v := 55) rfl dX11_add_112 ?_
  refine r_iald dX11_add_114 rfl (vpk (k := 55) (by decide) (by decide) rfl) ?_
  rw [c55, w55]
  refine r_Vf [.int _] dX11_add_115 lk_X11_505 mb_X11_done in_X11_done se_X11_done rfl (c_X11_done hM hA hS (by rw [w130]; exact hSr) w6 wP hb (by rw [w130]; exact hbr)) rfl rfl rfl (Nat.le_of_ble_eq_true rfl) (rfl) ?_
  exact r_iret hG dX11_add_118 (⟨rfl, rfl, rfl, rfl⟩)
set_option maxRecDepth 100000 in
theorem c_X11_undo_no (hM : x_Lay MR) (h : MI 124 20 = 0 ∨ MI 124 19 = 0) : Cf X yX11_undo cX11_undo 2 (some .boolean) 2 [.ref 124] n SH MI ML MR (some (.int 0)) (rfM (th MI) 1) ML MR := by
  obtain ⟨V, hV⟩ : ∃ V, V = th MI := ⟨_, rfl⟩
  have hV2 : V 124 20 = 0 ∨ V 124 19 = 0 := by rw [hV]; exact h
  rw [← hV]
  refine Ct_of (by decide) (Nat.le_of_ble_eq_true rfl) (fun G hG => ?_)
  refine r_aload_n 0 rfl dX11_undo_0 ?_
  refine r_iconst (v := 0) rfl dX11_undo_1 ?_
  refine r_puti dX11_undo_2 fl_X11_3 rfl rfl rfl ?_
  refine r_mem hV.symm rfl rfl ?_
  refine r_aload_n 0 rfl dX11_undo_5 ?_
  refine r_geti dX11_undo_6 fl_X11_257 rfl ?_
  refine r_ifeq (tgt := 19) dX11_undo_9 (by decide) (fun zh9 => ?_) (fun zh9 => ?_)
  · refine r_aload_n 0 rfl dX11_undo_19 ?_
    refine r_iconst (v := 1) rfl dX11_undo_20 ?_
    refine r_Vf [.int _] dX11_undo_21 lk_X11_251 mb_X11_refused in_X11_refused se_X11_refused rfl (c_X11_refused) rfl rfl rfl (Nat.le_of_ble_eq_true rfl) (rfl) ?_
    refine r_pop rfl dX11_undo_24 ?_
    refine r_iconst (v := 0) rfl dX11_undo_25 ?_
    exact r_zret hG dX11_undo_26 (rfl) (⟨rfl, rfl, rfl, rfl⟩)
  · refine r_aload_n 0 rfl dX11_undo_12 ?_
    refine r_geti dX11_undo_13 fl_X11_261 rfl ?_
    refine r_ifne (tgt := 27) dX11_undo_16 (by decide) (fun zh16 => ?_) (fun zh16 => ?_)
    · exact absurd hV2 (fun z => z.elim zh9 zh16)
    · refine r_aload_n 0 rfl dX11_undo_19 ?_
      refine r_iconst (v := 1) rfl dX11_undo_20 ?_
      refine r_Vf [.int _] dX11_undo_21 lk_X11_251 mb_X11_refused in_X11_refused se_X11_refused rfl (c_X11_refused) rfl rfl rfl (Nat.le_of_ble_eq_true rfl) (rfl) ?_
      refine r_pop rfl dX11_undo_24 ?_
      refine r_iconst (v := 0) rfl dX11_undo_25 ?_
      exact r_zret hG dX11_undo_26 (rfl) (⟨rfl, rfl, rfl, rfl⟩)
set_option maxRecDepth 100000 in
theorem c_X11_undo (hM : x_Lay MR) {A S b K : Nat} (hK : K ≤ 12) (hK0 : 0 < K) (hk : MI 124 19 = nI K) (h20 : ¬ MI 124 20 = 0) {W : Mi} (hW : W = sr (u2 (th MI) 124 19 (nI (K - 1))) 128 (fun j => if j < 88 then MI 132 (88 * (K - 1) + j) else MI 128 j)) (hA : A ≤ 8) (hS : S ≤ 6) (hSr : MI 130 0 = nI S) (hAr : W 128 6 = nI A) (hP : okA (arR W) A S) (hb : b < 6) (hbr : MI 130 1 = nI b) : Cf X yX11_undo cX11_undo 2 (some .boolean) 8 [.ref 124] n SH MI ML MR (some (.int 1)) (rfM (lkoM W ML S A b) 0) (lkoL W ML S A b) MR := by
  obtain ⟨V, hV⟩ : ∃ V, V = th MI := ⟨_, rfl⟩
  have hv128 : V 128 = MI 128 := by rw [hV]; rfl
  have hv132 : V 132 = MI 132 := by rw [hV]; rfl
  have hv130 : V 130 = MI 130 := by rw [hV]; rfl
  have hvK : V 124 19 = nI K := by rw [hV]; exact hk
  have hv20 : ¬ V 124 20 = 0 := by rw [hV]; exact h20
  rw [← hV] at hW
  have w130 : W 130 = MI 130 := by rw [hW, sr_ne _ _ (by decide), u2_row _ _ (by decide), hv130]
  have hsub : nI K - 1 = nI (K - 1) := by have h := nI_pred (K - 1); rw [show K - 1 + 1 = K by omega] at h; exact h
  refine Ct_of (by decide) (Nat.le_of_ble_eq_true rfl) (fun G hG => ?_)
  have loop : ∀ i, i ≤ 88 → RW X G RX11 cX11_undo 2 (x_rm 8 0 0) n SH (sr (u2 V 124 19 (nI (K - 1))) 128 (fun j => if j < i then MI 132 (88 * (K - 1) + j) else MI 128 j)) ML MR 0 0 39 [(1, .int (nI i)), (0, .ref 124)] [] := by
    refine bwd (fun i hi ih => ?_)
    have e19 : sr (u2 V 124 19 (nI (K - 1))) 128 (fun j => if j < i then MI 132 (88 * (K - 1) + j) else MI 128 j) 124 19 = nI (K - 1) := by rw [sr_ne _ _ (by decide)]; exact u2_eq _ _ _ _
    have e132 : sr (u2 V 124 19 (nI (K - 1))) 128 (fun j => if j < i then MI 132 (88 * (K - 1) + j) else MI 128 j) 132 = MI 132 := by rw [sr_ne _ _ (by decide), u2_row _ _ (by decide), hv132]
    have eix : (88 : Int32) * nI (K - 1) + nI i = nI (88 * (K - 1) + i) := by
      have h1 := pk_mul 88 (K - 1)
      have h2 := nI_add (88 * (K - 1)) i
      rw [← h1] at h2
      exact h2
    refine r_iload_n 0 rfl dX11_undo_39 ?_
    refine r_bipush (v := 88) rfl dX11_undo_40 ?_
    refine r_icmpge (tgt := 71) dX11_undo_42 (by decide) (fun zh42 => ?_) (fun zh42 => ?_)
    · obtain rfl : i = 88 := by have := geL (k := 88) (by decide) (by omega) zh42; omega
      refine r_mem (show _ = W from hW.symm) rfl rfl ?_
      refine r_aload_n 1 rfl dX11_undo_71 ?_
      refine r_iconst (v := 0) rfl dX11_undo_72 ?_
      refine r_Vf [.int _] dX11_undo_73 lk_X11_505 mb_X11_done in_X11_done se_X11_done rfl (c_X11_done hM hA hS (by rw [w130]; exact hSr) hAr hP hb (by rw [w130]; exact hbr)) rfl rfl rfl (Nat.le_of_ble_eq_true rfl) (rfl) ?_
      refine r_pop rfl dX11_undo_76 ?_
      refine r_iconst (v := 1) rfl dX11_undo_77 ?_
      exact r_zret hG dX11_undo_78 (rfl) (⟨rfl, rfl, rfl, rfl⟩)
    · have hlt : i < 88 := ltL (by omega) zh42
      refine r_aload_n 1 rfl dX11_undo_45 ?_
      refine r_getr dX11_undo_46 fl_X11_31 rfl (hM _ _ _ rfl) ?_
      refine r_iload_n 0 rfl dX11_undo_49 ?_
      refine r_aload_n 1 rfl dX11_undo_50 ?_
      refine r_getr dX11_undo_51 fl_X11_43 rfl (hM _ _ _ rfl) ?_
      refine r_bipush (v := 88) rfl dX11_undo_54 ?_
      refine r_aload_n 1 rfl dX11_undo_56 ?_
      refine r_geti dX11_undo_57 fl_X11_261 rfl ?_
      refine r_imul dX11_undo_60 ?_
      refine r_iload_n 0 rfl dX11_undo_61 ?_
      refine r_iadd dX11_undo_62 ?_
      refine r_iald dX11_undo_63 rfl (by rw [e19, eix]; exact vp_in_nI (show 88 * (K - 1) + i < 1056 by omega) (by decide)) ?_
      refine r_iast dX11_undo_64 rfl (vp_in_nI hlt (by decide)) ?_
      refine r_iinc (v := (nI (i + 1))) (ls2 := [(1, .int (nI (i + 1))), (0, .ref 124)]) 0 dX11_undo_65 rfl (x_inc i) (by decide) rfl ?_
      refine r_goto (tgt := 39) dX11_undo_68 (by decide) ?_
      refine r_mem ?_ rfl rfl (ih hlt)
      rw [e19, eix, e132, nI_clamp (by omega), nI_clamp (by omega)]
      funext b j
      simp only [u2, sr]
      grind
  refine r_aload_n 0 rfl dX11_undo_0 ?_
  refine r_iconst (v := 0) rfl dX11_undo_1 ?_
  refine r_puti dX11_undo_2 fl_X11_3 rfl rfl rfl ?_
  refine r_mem hV.symm rfl rfl ?_
  refine r_aload_n 0 rfl dX11_undo_5 ?_
  refine r_geti dX11_undo_6 fl_X11_257 rfl ?_
  refine r_ifeq (tgt := 19) dX11_undo_9 (by decide) (fun zh9 => ?_) (fun zh9 => ?_)
  · exact absurd zh9 (hv20)
  refine r_aload_n 0 rfl dX11_undo_12 ?_
  refine r_geti dX11_undo_13 fl_X11_261 rfl ?_
  refine r_ifne (tgt := 27) dX11_undo_16 (by decide) (fun zh16 => ?_) (fun zh16 => ?_)
  rotate_left
  · exact absurd zh16 (fun q => absurd q (by rw [hvK]; exact nI_ne0 hK0 (by omega)))
  refine r_aload_n 0 rfl dX11_undo_27 ?_
  refine r_dup rfl dX11_undo_28 ?_
  refine r_geti dX11_undo_29 fl_X11_261 rfl ?_
  refine r_iconst (v := 1) rfl dX11_undo_32 ?_
  refine r_isub dX11_undo_33 ?_
  refine r_puti dX11_undo_34 fl_X11_261 rfl rfl rfl ?_
  refine r_iconst (v := 0) rfl dX11_undo_37 ?_
  refine r_istore_n (ls2 := [(1, .int 0), (0, .ref 124)]) dX11_undo_38 (by decide) rfl ?_
  rw [hvK, hsub]
  refine r_mem ?_ rfl rfl (loop 0 (by decide))
  funext b j
  simp only [sr]
  by_cases z : b = 128
  · rw [if_pos z, if_neg (Nat.not_lt_zero j), z, u2_row _ _ (by decide), hv128]
  · rw [if_neg z]
/-! machine -/
set_option maxRecDepth 100000 in
theorem c_X11_machine_no (hM : x_Lay MR) {x : Int32} (h : x < 0 ∨ ¬ x ≤ MI 124 6) : Cf X yX11_machine cX11_machine 3 (some .int) 2 [.ref 124, .int x] n SH MI ML MR (some (.int (-1))) (rfM (th MI) 2) ML MR := by
  obtain ⟨V, hV⟩ : ∃ V, V = th MI := ⟨_, rfl⟩
  have hV2 : x < 0 ∨ ¬ x ≤ V 124 6 := by rw [hV]; exact h
  rw [← hV]
  refine Ct_of (by decide) (Nat.le_of_ble_eq_true rfl) (fun G hG => ?_)
  refine r_aload_n 0 rfl dX11_machine_0 ?_
  refine r_iconst (v := 0) rfl dX11_machine_1 ?_
  refine r_puti dX11_machine_2 fl_X11_3 rfl rfl rfl ?_
  refine r_mem hV.symm rfl rfl ?_
  refine r_iload_n 1 rfl dX11_machine_5 ?_
  refine r_iflt (tgt := 17) dX11_machine_6 (by decide) (fun zh6 => ?_) (fun zh6 => ?_)
  · refine r_aload_n 0 rfl dX11_machine_17 ?_
    refine r_iconst (v := 2) rfl dX11_machine_18 ?_
    refine r_Vf [.int _] dX11_machine_19 lk_X11_251 mb_X11_refused in_X11_refused se_X11_refused rfl (c_X11_refused) rfl rfl rfl (Nat.le_of_ble_eq_true rfl) (rfl) ?_
    exact r_iret hG dX11_machine_22 (⟨rfl, rfl, rfl, rfl⟩)
  · refine r_iload_n 1 rfl dX11_machine_9 ?_
    refine r_aload_n 0 rfl dX11_machine_10 ?_
    refine r_geti dX11_machine_11 fl_X11_248 rfl ?_
    refine r_icmple (tgt := 23) dX11_machine_14 (by decide) (fun zh14 => ?_) (fun zh14 => ?_)
    · exact absurd hV2 (fun z => z.elim zh6 (fun y => y zh14))
    · refine r_aload_n 0 rfl dX11_machine_17 ?_
      refine r_iconst (v := 2) rfl dX11_machine_18 ?_
      refine r_Vf [.int _] dX11_machine_19 lk_X11_251 mb_X11_refused in_X11_refused se_X11_refused rfl (c_X11_refused) rfl rfl rfl (Nat.le_of_ble_eq_true rfl) (rfl) ?_
      exact r_iret hG dX11_machine_22 (⟨rfl, rfl, rfl, rfl⟩)
def rmS (MI : Mi) (ML : Nat → Nat → Int64) (a0 : Nat) : Rs := (0, a0, 0, MI 124 9, MI 124 11, ML 124 13, MI 124 21, MI 124 22)
def rmD (MI : Mi) (L : Nat) : Mi := u2 (u2 (th MI) 124 7 (nI L)) 124 6 0
def rmQ (MI : Mi) (ML : Nat → Nat → Int64) (L a0 : Nat) : Rs × Mi := qrP L (rmS MI ML a0, u2 (u2 (zr8 (rmD MI L) 88) 131 0 0) 131 1 (-1))
def rmV (MI : Mi) (ML : Nat → Nat → Int64) (L a0 : Nat) : Mi := laQ (rmQ MI ML L a0).2 (rmQ MI ML L a0).1
def rmN (MI : Mi) (ML : Nat → Nat → Int64) (L a0 : Nat) : Mi := u2 (u2 (sr (sr (rmV MI ML L a0) 128 (copyTo (rmV MI ML L a0 128) (rmV MI ML L a0 129) 88)) 130 (copyTo (rmV MI ML L a0 130) (rmV MI ML L a0 131) 4)) 124 20 1) 124 19 0
def rmE (ML : Nat → Nat → Int64) (MI : Mi) (L a0 : Nat) : Nat → Nat → Int64 := lwQ ML (rmQ MI ML L a0).1
set_option maxRecDepth 100000 in
theorem c_X11_machine (hM : x_Lay MR) (hS2 : x_S2 X) {L a0 : Nat} (hL : L ≤ 600) (hu : nI L ≤ MI 124 6) (ha : MI 124 10 = nI a0) {V W : Mi} {B : Nat → Nat → Int64} (hVe : V = rmV MI ML L a0) (hWe : W = rmN MI ML L a0) (hB : B = rmE ML MI L a0) {A S b : Nat} (hok : ¬ 0 < V 124 12 → A ≤ 8 ∧ S ≤ 6 ∧ W 130 0 = nI S ∧ W 128 6 = nI A ∧ okA (arR W) A S ∧ b < 6 ∧ W 130 1 = nI b) : Cf X yX11_machine cX11_machine 3 (some .int) 8 [.ref 124, .int (nI L)] n SH MI ML MR (some (.int (if 0 < V 124 12 then -1 else nI A))) (if 0 < V 124 12 then u2 (u2 V 124 1 4) 124 2 (V 124 10) else rfM (lkoM W B S A b) 0) (if 0 < V 124 12 then B else lkoL W B S A b) MR := by
  have c6 : (6 : Int32).toNatClampNeg = 6 := rfl
  refine Ct_of (by decide) (Nat.le_of_ble_eq_true rfl) (fun G hG => ?_)
  have l2 : ¬ 0 < V 124 12 → ∀ i, i ≤ 4 → RW X G RX11 cX11_machine 3 (x_rm 8 0 0) n SH (sr (sr V 128 (copyTo (V 128) (V 129) 88)) 130 (copyTo (V 130) (V 131) i)) B MR 0 0 97 [(2, .int (nI i)), (0, .ref 124), (1, .int (nI L))] [] := by
    intro hp
    obtain ⟨hA, hS, hSr, hAr, hP, hb, hbr⟩ := hok hp
    refine bwd (fun i hi ih => ?_)
    have e131 : sr (sr V 128 (copyTo (V 128) (V 129) 88)) 130 (copyTo (V 130) (V 131) i) 131 = V 131 := by rw [sr_ne _ _ (by decide), sr_ne _ _ (by decide)]
    have eL : lkoM W B S A b 128 6 = nI A := by
      unfold lkoM
      rw [u2_row _ _ (by decide), u2_row _ _ (by decide)]
      unfold zkM
      rw [if_neg (by decide), laE_b _ (by decide) (by decide), hAr]
    refine r_iload_n 0 rfl dX11_machine_97 ?_
    refine r_iconst (v := 4) rfl dX11_machine_98 ?_
    refine r_icmpge (tgt := 120) dX11_machine_99 (by decide) (fun zh99 => ?_) (fun zh99 => ?_)
    · obtain rfl : i = 4 := by have := geL (k := 4) (by decide) (by omega) zh99; omega
      refine r_aload_n 1 rfl dX11_machine_120 ?_
      refine r_iconst (v := 1) rfl dX11_machine_121 ?_
      refine r_puti dX11_machine_122 fl_X11_257 rfl rfl rfl ?_
      refine r_aload_n 1 rfl dX11_machine_125 ?_
      refine r_iconst (v := 0) rfl dX11_machine_126 ?_
      refine r_puti dX11_machine_127 fl_X11_261 rfl rfl rfl ?_
      refine r_mem (MI2 := W) (by rw [hWe, hVe]; rfl) rfl rfl ?_
      refine r_aload_n 1 rfl dX11_machine_130 ?_
      refine r_Vn [] dX11_machine_131 lk_X11_264 mb_X11_looks in_X11_looks se_X11_looks rfl (c_X11_looks hM hA hS hSr hAr hP hb hbr rfl) rfl rfl rfl (Nat.le_of_ble_eq_true rfl) (rfl) ?_
      refine r_mem (MI2 := lkoM W B S A b) (ML2 := lkoL W B S A b) rfl rfl rfl ?_
      refine r_aload_n 1 rfl dX11_machine_134 ?_
      refine r_aload_n 1 rfl dX11_machine_135 ?_
      refine r_getr dX11_machine_136 fl_X11_31 rfl (hM _ _ _ rfl) ?_
      refine r_bipush (v := 6) rfl dX11_machine_139 ?_
      refine r_iald dX11_machine_141 rfl (vpk (k := 6) (by decide) (by decide) rfl) ?_
      rw [c6, eL]
      refine r_Vf [.int _] dX11_machine_142 lk_X11_267 mb_X11_good in_X11_good se_X11_good rfl (c_X11_good) rfl rfl rfl (Nat.le_of_ble_eq_true rfl) (rfl) ?_
      exact r_iret hG dX11_machine_145 (by rw [if_neg hp, if_neg hp, if_neg hp]; exact ⟨rfl, rfl, rfl, rfl⟩)
    · have hlt : i < 4 := ltL (by omega) zh99
      refine r_aload_n 1 rfl dX11_machine_102 ?_
      refine r_getr dX11_machine_103 fl_X11_37 rfl (hM _ _ _ rfl) ?_
      refine r_iload_n 0 rfl dX11_machine_106 ?_
      refine r_aload_n 1 rfl dX11_machine_107 ?_
      refine r_getr dX11_machine_108 fl_X11_40 rfl (hM _ _ _ rfl) ?_
      refine r_iload_n 0 rfl dX11_machine_111 ?_
      refine r_iald dX11_machine_112 rfl (vp_in_nI hlt (by decide)) ?_
      refine r_iast dX11_machine_113 rfl (vp_in_nI hlt (by decide)) ?_
      refine r_iinc (v := (nI (i + 1))) (ls2 := [(2, .int (nI (i + 1))), (0, .ref 124), (1, .int (nI L))]) 0 dX11_machine_114 rfl (x_inc i) (by decide) rfl ?_
      refine r_goto (tgt := 97) dX11_machine_117 (by decide) ?_
      refine r_mem ?_ rfl rfl (ih hlt)
      rw [e131, nI_clamp (by omega)]
      funext b j
      simp only [u2, sr, copyTo]
      grind
  have l1 : ¬ 0 < V 124 12 → ∀ i, i ≤ 88 → RW X G RX11 cX11_machine 3 (x_rm 8 0 0) n SH (sr V 128 (copyTo (V 128) (V 129) i)) B MR 0 0 71 [(2, .int (nI i)), (0, .ref 124), (1, .int (nI L))] [] := by
    intro hp
    refine bwd (fun i hi ih => ?_)
    have e129 : sr V 128 (copyTo (V 128) (V 129) i) 129 = V 129 := sr_ne _ _ (by decide)
    refine r_iload_n 0 rfl dX11_machine_71 ?_
    refine r_bipush (v := 88) rfl dX11_machine_72 ?_
    refine r_icmpge (tgt := 95) dX11_machine_74 (by decide) (fun zh74 => ?_) (fun zh74 => ?_)
    · obtain rfl : i = 88 := by have := geL (k := 88) (by decide) (by omega) zh74; omega
      refine r_iconst (v := 0) rfl dX11_machine_95 ?_
      refine r_istore_n (ls2 := [(2, .int 0), (0, .ref 124), (1, .int (nI L))]) dX11_machine_96 (by decide) rfl ?_
      refine r_mem ?_ rfl rfl (l2 hp 0 (by decide))
      have e : copyTo (V 130) (V 131) 0 = sr V 128 (copyTo (V 128) (V 129) 88) 130 := by
        rw [sr_ne _ _ (by decide)]
        funext j
        unfold copyTo
        rw [if_neg (Nat.not_lt_zero j)]
      rw [e, sr_id]
    · have hlt : i < 88 := ltL (by omega) zh74
      refine r_aload_n 1 rfl dX11_machine_77 ?_
      refine r_getr dX11_machine_78 fl_X11_31 rfl (hM _ _ _ rfl) ?_
      refine r_iload_n 0 rfl dX11_machine_81 ?_
      refine r_aload_n 1 rfl dX11_machine_82 ?_
      refine r_getr dX11_machine_83 fl_X11_34 rfl (hM _ _ _ rfl) ?_
      refine r_iload_n 0 rfl dX11_machine_86 ?_
      refine r_iald dX11_machine_87 rfl (vp_in_nI hlt (by decide)) ?_
      refine r_iast dX11_machine_88 rfl (vp_in_nI hlt (by decide)) ?_
      refine r_iinc (v := (nI (i + 1))) (ls2 := [(2, .int (nI (i + 1))), (0, .ref 124), (1, .int (nI L))]) 0 dX11_machine_89 rfl (x_inc i) (by decide) rfl ?_
      refine r_goto (tgt := 71) dX11_machine_92 (by decide) ?_
      refine r_mem ?_ rfl rfl (ih hlt)
      rw [e129, nI_clamp (by omega)]
      funext b j
      simp only [u2, sr, copyTo]
      grind
  have hini : u2 (u2 (u2 (u2 (u2 MI 124 0 0) 124 7 (nI L)) 124 6 0) 124 8 0) 124 12 0 = laQ (rmD MI L) (rmS MI ML a0) := by
    have h10 := ha
    unfold rmD rmS th
    funext b j
    simp only [u2, laQ]
    by_cases z : b = 124
    · subst z
      by_cases z10 : j = 10
      · subst z10
        simp
        exact h10
      · have z0 : (0 : Int32) = nI 0 := rfl
        clear l1 l2 hok hG hVe hWe hB
        grind
    · simp [z]
  have hinl : ML = lwQ ML (rmS MI ML a0) := by
    have q : u2 ML 124 13 (ML 124 13) = ML := by rw [u2_sr, up_id _ _ _ rfl, sr_id]
    exact q.symm
  refine r_aload_n 0 rfl dX11_machine_0 ?_
  refine r_iconst (v := 0) rfl dX11_machine_1 ?_
  refine r_puti dX11_machine_2 fl_X11_3 rfl rfl rfl ?_
  refine r_iload_n 1 rfl dX11_machine_5 ?_
  refine r_iflt (tgt := 17) dX11_machine_6 (by decide) (fun zh6 => ?_) (fun zh6 => ?_)
  · exact absurd zh6 (nI_pos (by omega))
  refine r_iload_n 1 rfl dX11_machine_9 ?_
  refine r_aload_n 0 rfl dX11_machine_10 ?_
  refine r_geti dX11_machine_11 fl_X11_248 rfl ?_
  refine r_icmple (tgt := 23) dX11_machine_14 (by decide) (fun zh14 => ?_) (fun zh14 => ?_)
  rotate_left
  · exact absurd zh14 (fun q => q hu)
  refine r_aload_n 0 rfl dX11_machine_23 ?_
  refine r_iload_n 1 rfl dX11_machine_24 ?_
  refine r_puti dX11_machine_25 fl_X11_119 rfl rfl rfl ?_
  refine r_aload_n 0 rfl dX11_machine_28 ?_
  refine r_iconst (v := 0) rfl dX11_machine_29 ?_
  refine r_puti dX11_machine_30 fl_X11_248 rfl rfl rfl ?_
  refine r_aload_n 0 rfl dX11_machine_33 ?_
  refine r_iconst (v := 0) rfl dX11_machine_34 ?_
  refine r_puti dX11_machine_35 fl_X11_125 rfl rfl rfl ?_
  refine r_aload_n 0 rfl dX11_machine_38 ?_
  refine r_iconst (v := 0) rfl dX11_machine_39 ?_
  refine r_puti dX11_machine_40 fl_X11_122 rfl rfl rfl ?_
  refine r_mem hini hinl rfl ?_
  refine r_aload_n 0 rfl dX11_machine_43 ?_
  refine r_Vn [] dX11_machine_44 lk_X11_254 mb_X11_readAll in_X11_readAll se_X11_readAll rfl (c_X11_readAll (s := rmS MI ML a0) hM hS2 hL rfl rfl (Nat.zero_le _) rfl) rfl rfl rfl (Nat.le_of_ble_eq_true rfl) (rfl) ?_
  refine r_mem (MI2 := V) (ML2 := B) (by rw [hVe]; rfl) (by rw [hB]; rfl) rfl ?_
  refine r_aload_n 0 rfl dX11_machine_47 ?_
  refine r_geti dX11_machine_48 fl_X11_122 rfl ?_
  refine r_ifle (tgt := 69) dX11_machine_51 (by decide) (fun zh51 => ?_) (fun zh51 => ?_)
  · refine r_iconst (v := 0) rfl dX11_machine_69 ?_
    refine r_istore_n (ls2 := [(2, .int 0), (0, .ref 124), (1, .int (nI L))]) dX11_machine_70 (by decide) rfl ?_
    refine r_mem ?_ rfl rfl (l1 (Int32.not_lt.mpr zh51) 0 (by decide))
    have e : copyTo (V 128) (V 129) 0 = V 128 := by
      funext j
      unfold copyTo
      rw [if_neg (Nat.not_lt_zero j)]
    rw [e, sr_id]
  · refine r_aload_n 0 rfl dX11_machine_54 ?_
    refine r_iconst (v := 4) rfl dX11_machine_55 ?_
    refine r_puti dX11_machine_56 fl_X11_7 rfl rfl rfl ?_
    refine r_aload_n 0 rfl dX11_machine_59 ?_
    refine r_aload_n 0 rfl dX11_machine_60 ?_
    refine r_geti dX11_machine_61 fl_X11_132 rfl ?_
    refine r_puti dX11_machine_64 fl_X11_10 rfl rfl rfl ?_
    refine r_iconst (v := (-1)) rfl dX11_machine_67 ?_
    exact r_iret hG dX11_machine_68 (by rw [if_pos (Int32.not_le.mp zh51), if_pos (Int32.not_le.mp zh51), if_pos (Int32.not_le.mp zh51)]; exact ⟨rfl, rfl, rfl, rfl⟩)
end racts2

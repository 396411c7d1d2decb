/-! the reference: settles, settled, shown -/
theorem rrT_p {W : Mi} {x : Int32} (h : ¬ rrT W x = 0) : 0 < rrT W x := by
  unfold rrT at h ⊢
  split
  · rename_i h1
    rw [if_pos h1] at h
    split
    · decide
    · rename_i h2
      rw [if_neg h2] at h
      split
      · rename_i h3
        rw [if_pos h3] at h
        split
        · rename_i h4; rw [if_pos h4] at h; exact absurd rfl h
        · decide
      · decide
  · decide
theorem rrT_0 {W : Mi} {x : Int32} (h : rrT W x = 0) : rIA W x = true ∧ ¬ 0 < W 124 27 ∧ inB (W 145 3) 0 5 = true ∧ inB (W 145 4) 0 5 = true := by
  unfold rrT at h
  split at h
  · rename_i h1
    split at h
    · exact absurd h (by decide)
    · rename_i h2
      split at h
      · rename_i h3
        split at h
        · rename_i h4; exact ⟨h1, h2, h3, h4⟩
        · exact absurd h (by decide)
      · exact absurd h (by decide)
  · exact absurd h (by decide)
def shS (W : Mi) (p : Int32) : Nat → Int32
  | 0 => 0
  | k + 1 => shS W p k ||| vaI W k p <<< (nI k &&& 31)
theorem rcS_cg {c1 c2 : Nat → Nat} {d : Nat} : ∀ q, (∀ k, k < q → c1 k = c2 k) → rcS c1 d q = rcS c2 d q := by
  intro q
  induction q with
  | zero => intro _; rfl
  | succ q ih => intro h; rw [rcS, rcS, ih (fun k hk => h k (by omega)), h q (by omega)]
section rshown
variable {X : xG} {n : Nat} {MI : Nat → Nat → Int32} {ML : Nat → Nat → Int64} {MR : Nat → Nat → Option Nat}
theorem cc_pl {V W : Mi} {A b f q : Nat} (hA : A ≤ 8) (hf : f < 5) (h : rCc V ML A b W) (h1 : W 141 f = 1) (hq : q ≤ 5) (hc : W 145 f = nI q) : ∀ k, k < q → ∃ i, i < (plR V ML A f).length ∧ W 146 (5 * f + k) = nI i ∧ ccN W f k = (plR V ML A f).getD i 0 := by
  rcases h.2 f hf with z | ⟨-, z2, z3⟩
  · rw [h1] at z; exact absurd z (by decide)
  · intro k hk
    have hl := plR_len V ML A f
    obtain ⟨i, hi, he⟩ := cqR_in (by omega) (rqL_len V (nI f) b hA) hq z3 hc k hk
    have he2 : W 146 (5 * f + k) = nI i := he
    have e4 := (rCc_pl hf h z2).2 i hi
    have hlt : (plR V ML A f).getD i 0 < 729 := prQ_lt hi
    exact ⟨i, hi, he2, by unfold ccN; rw [he2, nI_clamp (by omega), e4, nI_clamp (by omega)]⟩
/-- what another function's FEWEST leaves -/
theorem va_kp {V W W2 : Mi} {A b f g : Nat} (hA : A ≤ 8) (hg : g < 5) (hne : g ≠ f) (h : rCc V ML A b W) (h2 : rCc V ML A b W2) (hk : kpR f W W2) (h1 : W 141 g = 1) (hb : inB (W 145 g) 0 5 = true) (p : Int32) : vaI W2 g p = vaI W g p := by
  obtain ⟨k1, k2, k3⟩ := hk g hg hne
  obtain ⟨q, hq, hqe⟩ := inB_ex (N := 5) (by decide) hb
  have hl := plR_len V ML A g
  unfold vaI rcP
  rw [nI_clamp (show g < 2 ^ 31 by omega), k2, hqe, nI_clamp (show q < 2 ^ 31 by omega)]
  congr 1
  refine rcS_cg q (fun k hkq => ?_)
  obtain ⟨i, hi, a1, a2⟩ := cc_pl hA hg h h1 (by omega) hqe k hkq
  obtain ⟨j, hj, b1, b2'⟩ := cc_pl hA hg h2 (k1.trans h1) (by omega) (k2.trans hqe) k hkq
  have e : i = j := (nI_eq (by omega) (by omega)).mp (a1.symm.trans ((k3 k (by omega)).symm.trans b1))
  rw [a2, b2', e]
theorem shS_kp {V W W2 : Mi} {A b f : Nat} (hA : A ≤ 8) (h : rCc V ML A b W) (h2 : rCc V ML A b W2) (hk : kpR f W W2) (p : Int32) : ∀ k, k ≤ f → k ≤ 5 → (∀ g, g < k → W 141 g = 1 ∧ inB (W 145 g) 0 5 = true) → shS W2 p k = shS W p k := by
  intro k
  induction k with
  | zero => intro _ _ _; rfl
  | succ k ih =>
    intro h1 h5 hall
    rw [shS, shS, ih (by omega) (by omega) (fun g hg => hall g (by omega)), va_kp hA (by omega) (by omega) h h2 hk (hall k (by omega)).1 (hall k (by omega)).2 p]
set_option maxRecDepth 100000 in
theorem c_X11_settles (hM : x_Lay MR) {A S b : Nat} (hm : rMc MI A S b) (hc : rCc MI ML A b MI) (hmu : muOK MI) {x : Int32} : Ct X yX11_settles cX11_settles 3 (some .int) 12 0 0 [.ref 124, .int x] n SH MI ML MR n SH (rQ MI ML MR A b (fun W a w => rrK W x ∧ if rrT W x = 0 then a = (grF W x.toNatClampNeg).2 ∧ w = 0 else a = -1 ∧ w = rrT W x)) := by
  obtain ⟨V, hV⟩ : ∃ V, V = th MI := ⟨_, rfl⟩
  have hmV : rMc V A S b := by rw [hV]; exact rMc_th hm
  have hcV : rCc V ML A b V := by rw [hV]; exact rCc_th hc
  have hmuV : muOK V := by rw [hV]; exact hmu
  refine Ct_of (by decide) (Nat.le_of_ble_eq_true rfl) (fun G hG => ?_)
  have j21 : ∀ zW zB, (∀ c, c ≠ 148 → zB c = ML c) → rF V zW → rCc V ML A b zW → rrK zW x → rrT zW x = 0 → RW X G RX11 cX11_settles 3 (x_rm 12 0 0) n SH zW zB MR 0 0 21 [(2, .int (rrT zW x)), (0, .ref 124), (1, .int x)] [] := by
    intro zW zB zB1 zF zC1 z1 h1
    obtain ⟨a1, a2, a3, a4⟩ := rrT_0 h1
    obtain ⟨k1, k2⟩ := z1 a1 a2
    obtain ⟨hA, hS, hAr, hP, -, -⟩ := rMc_F hmV zF
    obtain ⟨i, hi, rfl⟩ := rIA_ex (by omega) hAr a1
    obtain ⟨q3, hq3, e3⟩ := inB_ex (N := 5) (by decide) a3
    obtain ⟨q4, hq4, e4⟩ := inB_ex (N := 5) (by decide) a4
    have ci : (nI i).toNatClampNeg = i := nI_clamp (by omega)
    have hgo := c_X11_goesRound (X := X) (n := n) (MI := zW) (ML := zB) (MR := MR) hM (muOK_F zF hmuV) hA hS hP hi (by omega) e3 (rCc_cc hA (by decide) zC1 k1 (by omega) e3) (by omega) e4 (rCc_cc hA (by decide) zC1 (k2 a3) (by omega) e4)
    refine r_aload_n 1 rfl dX11_settles_21 ?_
    refine r_iload_n 2 rfl dX11_settles_22 ?_
    refine r_Vn [.int _] dX11_settles_23 lk_X11_480 mb_X11_goesRound in_X11_goesRound se_X11_goesRound rfl (hgo) rfl rfl rfl (Nat.le_of_ble_eq_true rfl) (rfl) ?_
    refine r_aload_n 1 rfl dX11_settles_26 ?_
    refine r_aload_n 1 rfl dX11_settles_27 ?_
    refine r_geti dX11_settles_28 fl_X11_471 rfl ?_
    rw [gr_r]
    refine r_Vf [.int _] dX11_settles_31 lk_X11_267 mb_X11_good in_X11_good se_X11_good rfl (c_X11_good) rfl rfl rfl (Nat.le_of_ble_eq_true rfl) (rfl) ?_
    exact r_iret hG dX11_settles_34 (rq_end2 (by rw [← hV]; exact zF) zB1 (by rw [← hV]; exact zC1) ⟨z1, (if_pos h1).mpr ⟨by rw [ci]; rfl, rfl⟩⟩)
  refine r_aload_n 0 rfl dX11_settles_0 ?_
  refine r_iconst (v := 0) rfl dX11_settles_1 ?_
  refine r_puti dX11_settles_2 fl_X11_3 rfl rfl rfl ?_
  refine r_mem hV.symm rfl rfl ?_
  refine r_aload_n 0 rfl dX11_settles_5 ?_
  refine r_iload_n 1 rfl dX11_settles_6 ?_
  refine r_Vg [.int _] dX11_settles_7 lk_X11_477 mb_X11_refusesRounds in_X11_refusesRounds se_X11_refusesRounds rfl (c_X11_refusesRounds hM hmV hcV) rfl rfl rfl (Nat.le_of_ble_eq_true rfl) (rfl) (fun r zW zB zC hz => ?_)
  obtain ⟨rfl, zB1, zF, zC1, z1, rfl⟩ := hz
  show RW X G _ _ _ _ _ _ _ _ _ _ _ _ _ [.int (rrT zW x)]
  refine r_istore_n (ls2 := [(2, .int (rrT zW x)), (0, .ref 124), (1, .int x)]) dX11_settles_10 (by decide) rfl ?_
  refine r_iload_n 0 rfl dX11_settles_11 ?_
  refine r_ifle (tgt := 21) dX11_settles_12 (by decide) (fun zh12 => ?_) (fun zh12 => ?_)
  · exact r_sub [0, 1, 2] rfl (j21 zW zB zB1 zF zC1 z1 (Classical.byContradiction fun z => absurd (rrT_p z) (Int32.not_lt.mpr zh12)))
  · refine r_aload_n 1 rfl dX11_settles_15 ?_
    refine r_iload_n 0 rfl dX11_settles_16 ?_
    refine r_Vf [.int _] dX11_settles_17 lk_X11_251 mb_X11_refused in_X11_refused se_X11_refused rfl (c_X11_refused) rfl rfl rfl (Nat.le_of_ble_eq_true rfl) (rfl) ?_
    exact r_iret hG dX11_settles_20 (rq_end (by rw [← hV]; exact zF) zB1 (by rw [← hV]; exact zC1) ⟨z1, by have zc : ¬ rrT zW x = 0 := fun z => zh12 (by rw [z]; exact Int32.le_refl 0); exact (if_neg zc).mpr ⟨rfl, rfl⟩⟩)
set_option maxRecDepth 100000 in
theorem c_X11_settled (hM : x_Lay MR) {A S b : Nat} (hm : rMc MI A S b) (hc : rCc MI ML A b MI) (hmu : muOK MI) {x : Int32} : Ct X yX11_settled cX11_settled 3 (some .int) 12 0 0 [.ref 124, .int x] n SH MI ML MR n SH (rQ MI ML MR A b (fun W a w => rrK W x ∧ if rrT W x = 0 then a = (grF W x.toNatClampNeg).1 ∧ w = 0 else a = -1 ∧ w = rrT W x)) := by
  obtain ⟨V, hV⟩ : ∃ V, V = th MI := ⟨_, rfl⟩
  have hmV : rMc V A S b := by rw [hV]; exact rMc_th hm
  have hcV : rCc V ML A b V := by rw [hV]; exact rCc_th hc
  have hmuV : muOK V := by rw [hV]; exact hmu
  refine Ct_of (by decide) (Nat.le_of_ble_eq_true rfl) (fun G hG => ?_)
  have j21 : ∀ zW zB, (∀ c, c ≠ 148 → zB c = ML c) → rF V zW → rCc V ML A b zW → rrK zW x → rrT zW x = 0 → RW X G RX11 cX11_settled 3 (x_rm 12 0 0) n SH zW zB MR 0 0 21 [(2, .int (rrT zW x)), (0, .ref 124), (1, .int x)] [] := by
    intro zW zB zB1 zF zC1 z1 h1
    obtain ⟨a1, a2, a3, a4⟩ := rrT_0 h1
    obtain ⟨k1, k2⟩ := z1 a1 a2
    obtain ⟨hA, hS, hAr, hP, -, -⟩ := rMc_F hmV zF
    obtain ⟨i, hi, rfl⟩ := rIA_ex (by omega) hAr a1
    obtain ⟨q3, hq3, e3⟩ := inB_ex (N := 5) (by decide) a3
    obtain ⟨q4, hq4, e4⟩ := inB_ex (N := 5) (by decide) a4
    have ci : (nI i).toNatClampNeg = i := nI_clamp (by omega)
    have hgo := c_X11_goesRound (X := X) (n := n) (MI := zW) (ML := zB) (MR := MR) hM (muOK_F zF hmuV) hA hS hP hi (by omega) e3 (rCc_cc hA (by decide) zC1 k1 (by omega) e3) (by omega) e4 (rCc_cc hA (by decide) zC1 (k2 a3) (by omega) e4)
    refine r_aload_n 1 rfl dX11_settled_21 ?_
    refine r_iload_n 2 rfl dX11_settled_22 ?_
    refine r_Vn [.int _] dX11_settled_23 lk_X11_480 mb_X11_goesRound in_X11_goesRound se_X11_goesRound rfl (hgo) rfl rfl rfl (Nat.le_of_ble_eq_true rfl) (rfl) ?_
    refine r_aload_n 1 rfl dX11_settled_26 ?_
    refine r_aload_n 1 rfl dX11_settled_27 ?_
    refine r_geti dX11_settled_28 fl_X11_468 rfl ?_
    rw [gr_c]
    refine r_Vf [.int _] dX11_settled_31 lk_X11_267 mb_X11_good in_X11_good se_X11_good rfl (c_X11_good) rfl rfl rfl (Nat.le_of_ble_eq_true rfl) (rfl) ?_
    exact r_iret hG dX11_settled_34 (rq_end2 (by rw [← hV]; exact zF) zB1 (by rw [← hV]; exact zC1) ⟨z1, (if_pos h1).mpr ⟨by rw [ci]; rfl, rfl⟩⟩)
  refine r_aload_n 0 rfl dX11_settled_0 ?_
  refine r_iconst (v := 0) rfl dX11_settled_1 ?_
  refine r_puti dX11_settled_2 fl_X11_3 rfl rfl rfl ?_
  refine r_mem hV.symm rfl rfl ?_
  refine r_aload_n 0 rfl dX11_settled_5 ?_
  refine r_iload_n 1 rfl dX11_settled_6 ?_
  refine r_Vg [.int _] dX11_settled_7 lk_X11_477 mb_X11_refusesRounds in_X11_refusesRounds se_X11_refusesRounds rfl (c_X11_refusesRounds hM hmV hcV) rfl rfl rfl (Nat.le_of_ble_eq_true rfl) (rfl) (fun r zW zB zC hz => ?_)
  obtain ⟨rfl, zB1, zF, zC1, z1, rfl⟩ := hz
  show RW X G _ _ _ _ _ _ _ _ _ _ _ _ _ [.int (rrT zW x)]
  refine r_istore_n (ls2 := [(2, .int (rrT zW x)), (0, .ref 124), (1, .int x)]) dX11_settled_10 (by decide) rfl ?_
  refine r_iload_n 0 rfl dX11_settled_11 ?_
  refine r_ifle (tgt := 21) dX11_settled_12 (by decide) (fun zh12 => ?_) (fun zh12 => ?_)
  · exact r_sub [0, 1, 2] rfl (j21 zW zB zB1 zF zC1 z1 (Classical.byContradiction fun z => absurd (rrT_p z) (Int32.not_lt.mpr zh12)))
  · refine r_aload_n 1 rfl dX11_settled_15 ?_
    refine r_iload_n 0 rfl dX11_settled_16 ?_
    refine r_Vf [.int _] dX11_settled_17 lk_X11_251 mb_X11_refused in_X11_refused se_X11_refused rfl (c_X11_refused) rfl rfl rfl (Nat.le_of_ble_eq_true rfl) (rfl) ?_
    exact r_iret hG dX11_settled_20 (rq_end (by rw [← hV]; exact zF) zB1 (by rw [← hV]; exact zC1) ⟨z1, by have zc : ¬ rrT zW x = 0 := fun z => zh12 (by rw [z]; exact Int32.le_refl 0); exact (if_neg zc).mpr ⟨rfl, rfl⟩⟩)
end rshown

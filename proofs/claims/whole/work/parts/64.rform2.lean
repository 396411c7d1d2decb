/-! the reference: needed, lacking, fewest, chosen -/
/-- rows that chooses leaves: what is chosen are PRIMES -/
theorem cho_row {H : Nat → Int64} {np nr : Nat} {Sb : Int64 → Prop} (hS1 : ∀ l, Sb l → ¬ l = 0 → ∃ k, k < nr ∧ hasL l (nI k) = true) (hS2 : ∀ l x, Sb l → Sb (l &&& x)) (hnp : 0 < np) : ∀ (m k fm : Nat) (left : Int64) (row : Nat → Int32), Sb left → (∀ j, j < k → (cho H np nr m k fm left row).2 j = row j) ∧ ((cho H np nr m k fm left row).1 = true → ∀ j, k ≤ j → j < k + m → ∃ i, i < np ∧ (cho H np nr m k fm left row).2 j = nI i) := by
  intro m
  induction m with
  | zero =>
    intro k fm left row _
    rw [cho]
    exact ⟨fun _ _ => rfl, fun _ j h1 h2 => by omega⟩
  | succ m ih =>
    intro k fm left row hSb
    rw [cho]
    by_cases h0 : left = 0
    · rw [if_pos h0]
      exact ⟨fun _ _ => rfl, fun q => absurd (show false = true from q) (by decide)⟩
    · rw [if_neg h0]
      obtain ⟨kb, hkb, hbb⟩ := hS1 left hSb h0
      have hla := lsV_lt (H := H) (left := left) hnp nr kb hkb hbb
      generalize lsV H np left nr = la at hla
      have key : ∀ c i row2, i + c ≤ la + 1 → (∀ j, j < k → row2 j = row j) → (∀ j, j < k → (choL H left k (cho H np nr m (k + 1)) c i row2).2 j = row j) ∧ ((choL H left k (cho H np nr m (k + 1)) c i row2).1 = true → ∀ j, k ≤ j → j < k + (m + 1) → ∃ p, p < np ∧ (choL H left k (cho H np nr m (k + 1)) c i row2).2 j = nI p) := by
        intro c
        induction c with
        | zero => intro i row2 _ hr; exact ⟨hr, fun q => absurd (show false = true from q) (by decide)⟩
        | succ c ihc =>
          intro i row2 hic hr
          rw [choL]
          by_cases hz : H i &&& left = 0
          · rw [if_pos hz]; exact ihc (i + 1) row2 (by omega) hr
          · rw [if_neg hz]
            have hrec := ih (k + 1) (i + 1) (left &&& (H i ^^^ -1)) (up row2 k (nI i)) (hS2 _ _ hSb)
            have hlow : ∀ j, j < k → (cho H np nr m (k + 1) (i + 1) (left &&& (H i ^^^ -1)) (up row2 k (nI i))).2 j = row j := fun j hj => by rw [hrec.1 j (by omega), up_ne _ _ (by omega), hr j hj]
            by_cases ht : (cho H np nr m (k + 1) (i + 1) (left &&& (H i ^^^ -1)) (up row2 k (nI i))).1 = true
            · rw [if_pos ht]
              refine ⟨hlow, fun _ j h1 h2 => ?_⟩
              by_cases e : j = k
              · subst e
                exact ⟨i, by omega, by rw [hrec.1 j (by omega), up_eq]⟩
              · exact hrec.2 ht j (by omega) (by omega)
            · rw [if_neg ht]
              exact ihc (i + 1) _ (by omega) hlow
      rcases Nat.lt_or_ge (la + 1) fm with z | z
      · rw [show la + 1 - fm = 0 by omega]
        exact ⟨fun _ _ => rfl, fun q => absurd (show false = true from q) (by decide)⟩
      · exact key (la + 1 - fm) fm row (by omega) (fun _ _ => rfl)
theorem cvS_row {H : Nat → Int64} {np nr : Nat} {all : Int64} {Sb : Int64 → Prop} (hS1 : ∀ l, Sb l → ¬ l = 0 → ∃ k, k < nr ∧ hasL l (nI k) = true) (hS2 : ∀ l x, Sb l → Sb (l &&& x)) (hnp : 0 < np) (hSa : Sb all) : ∀ (c m : Nat) (row : Nat → Int32), c + m ≤ 6 → ∀ q, q ≤ 5 → (cvS H np nr all c m row).1 = nI q → ∀ j, j < q → ∃ i, i < np ∧ (cvS H np nr all c m row).2 j = nI i := by
  intro c
  induction c with
  | zero =>
    intro m row _ q hq he
    rw [cvS] at he
    exact absurd ((nI_eq (a := 6) (by decide) (by omega)).mp he) (by omega)
  | succ c ih =>
    intro m row hcm q hq he j hj
    rw [cvS] at he ⊢
    by_cases h : (cho H np nr m 0 0 all row).1 = true
    · rw [if_pos h] at he ⊢
      have em : m = q := (nI_eq (by omega) (by omega)).mp he
      subst em
      exact (cho_row hS1 hS2 hnp m 0 0 all row hSa).2 h j (Nat.zero_le _) (by omega)
    · rw [if_neg h] at he ⊢
      exact ih (m + 1) _ (by omega) q hq he j hj
/-- FEWEST, as kept, is of PRIMES -/
theorem cqR_in {H : Nat → Int64} {np K q : Nat} {c : Int32} {row : Nat → Int32} (hnp : np < 2 ^ 31) (hK : K ≤ 33) (hq : q ≤ 5) (h : cqR H np K c row) (hc : c = nI q) : ∀ j, j < q → ∃ i, i < np ∧ row j = nI i := by
  unfold cqR at h
  by_cases hn : lcO (cbO H (-1) np) K = none
  · rw [if_pos hn] at h
    obtain ⟨H2, r0, h1, h2, h3⟩ := h
    intro j hj
    have hS1 : ∀ l, (∀ j, K ≤ j → j < 64 → gb l j = false) → ¬ l = 0 → ∃ k, k < K ∧ hasL l (nI k) = true := fun l hl h0 => by
      obtain ⟨j, hj, hz⟩ := gb_ne0.mp h0
      have hjK : j < K := by
        rcases Nat.lt_or_ge j K with z | z
        · exact z
        · rw [hl j z hj] at hz; exact absurd hz (by decide)
      exact ⟨j, hjK, by rw [hasL_gb _ hj]; exact hz⟩
    have hS2 : ∀ l x, (∀ j, K ≤ j → j < 64 → gb l j = false) → ∀ j, K ≤ j → j < 64 → gb (l &&& x) j = false := fun l x hl j h1 h2 => by rw [gb_and, hl j h1 h2]; rfl
    have hSa : ∀ j, K ≤ j → j < 64 → gb (bitL K - 1) j = false := fun j h1 h2 => by rw [gb_full K (by omega) j h2]; exact decide_eq_false (by omega)
    rw [h3 q hq hc j hj]
    by_cases hK0 : K = 0
    · -- nothing is required: none is chosen
      exfalso
      subst hK0
      have e0 : bitL 0 - 1 = 0 := by decide
      have ec : (cvS H2 np 0 (bitL 0 - 1) 6 0 r0).1 = nI 0 := by
        rw [e0, cvS, cho]
        rfl
      rw [h2, ec] at hc
      have := (nI_eq (a := 0) (by decide) (by omega)).mp hc
      omega
    · have hnp0 : 0 < np := by
        have := lcO_none hn 0 (by omega)
        rw [hasL_gb _ (by decide), cbO_gb H (by decide) np hnp] at this
        obtain ⟨i, hi, -⟩ := this
        omega
      exact cvS_row (Sb := fun l => ∀ j, K ≤ j → j < 64 → gb l j = false) hS1 hS2 hnp0 hSa 6 0 r0 (by decide) q hq (by rw [← h2]; exact hc) j hj
  · rw [if_neg hn] at h
    rw [h] at hc
    exact absurd (show nI q < 0 by rw [← hc]; decide) (nI_pos (by omega))
section rform2
variable {X : xG} {n : Nat} {MI : Nat → Nat → Int32} {ML : Nat → Nat → Int64} {MR : Nat → Nat → Option Nat}
theorem rCc_q {V U W : Mi} {A b f : Nat} (hf : f < 5) (hc : rCc V ML A b U) (hF : rpF U W f) (hI : rI (plR V ML A) W) (h1 : W 140 f = 1) : rCc V ML A b W := ⟨hI, fun g hg => by
  rw [hF.1 141 (by decide) (by decide) (by decide) (by decide), hF.1 145 (by decide) (by decide) (by decide) (by decide), hF.1 146 (by decide) (by decide) (by decide) (by decide)]
  rcases hc.2 g hg with z | ⟨y1, y2, y3⟩
  · exact Or.inl z
  · refine Or.inr ⟨y1, ?_, y3⟩
    by_cases e : g = f
    · rw [e]; exact h1
    · rw [(hF.2 g hg e).1]; exact y2⟩
theorem rCc_nd {V U : Mi} {A b : Nat} {r : Nat → Int32} {L : List Int32} (h : rCc V ML A b U) : rCc V ML A b (ndM U r L) := h
set_option maxRecDepth 100000 in
theorem c_X11_needed (hM : x_Lay MR) {A S b : Nat} (hm : rMc MI A S b) (hc : rCc MI ML A b MI) {x : Int32} : Ct X yX11_needed cX11_needed 5 (some .int) 7 0 0 [.ref 124, .int x] n SH MI ML MR n SH (rQ MI ML MR A b (fun _ a w => if rTr (th MI) x = 0 then a = nI (ndN (hhR (th MI) ML A b x.toNatClampNeg) (plR (th MI) ML A x.toNatClampNeg).length (plR (th MI) ML A x.toNatClampNeg).length) ∧ w = 0 else a = -1 ∧ w = rTr (th MI) x)) := by
  obtain ⟨V, hV⟩ : ∃ V, V = th MI := ⟨_, rfl⟩
  have hmV : rMc V A S b := by rw [hV]; exact rMc_th hm
  have hcV : rCc V ML A b V := by rw [hV]; exact rCc_th hc
  rw [← hV]
  obtain ⟨hA, hS, hAr, hP, hb, hbr⟩ := hmV
  by_cases h1 : rTr V x = 0
  · obtain ⟨f, hf, rfl⟩ := rTr_f h1
    have cf : (nI f).toNatClampNeg = f := nI_clamp (by omega)
    have hlen := rqL_len V (nI f) b hA
    have hplen := plR_len V ML A f
    have hPn : okA (arR (ndM V (V 139) (rqL V (nI f) A b))) A S := hP
    have hAn : ndM V (V 139) (rqL V (nI f) A b) 128 6 = nI A := by rw [ndM_b (by decide) (by decide), hAr]
    have hpln : plR V ML A f = prQ (fun c => sfP (ndM V (V 139) (rqL V (nI f) A b)) ML f c A) (ML 125) 729 := rfl
    obtain ⟨np, hnp⟩ : ∃ np, np = (plR V ML A f).length := ⟨_, rfl⟩
    obtain ⟨K, hKe⟩ : ∃ K, K = (rqL V (nI f) A b).length := ⟨_, rfl⟩
    obtain ⟨H, hHe⟩ : ∃ H, H = hhR V ML A b f := ⟨_, rfl⟩
    have hHK : H = hH ML K (ndx (rqL V (nI f) A b)) (fun i => (plR V ML A f).getD i 0) := by rw [hHe, hKe]; rfl
    refine Ct_of (by decide) (Nat.le_of_ble_eq_true rfl) (fun G hG => ?_)
    have loop : ∀ zW, rpF (ndM V (V 139) (rqL V (nI f) A b)) zW f → rI (plR V ML A) zW → zW 140 f = 1 → ∀ i, i ≤ np → RW X G RX11 cX11_needed 5 (x_rm 7 0 0) n SH zW ML MR 0 0 36 [(4, .int (nI i)), (3, .int (nI (ndN H np i))), (2, .int (rTr V (nI f))), (0, .ref 124), (1, .int (nI f))] [] := by
      intro zW zF zI z1
      have zNQ := np_both (MI := V) (S := S) (pl := plR V ML A) hA hf rfl zF zI z1
      unfold rNQ at zNQ
      rw [← hKe, ← hnp] at zNQ
      have zNP := zNQ
      obtain ⟨q1, q2, q3, q4, q5, q6⟩ := zNQ
      have zC1 := rCc_q hf (rCc_nd hcV) zF zI z1
      refine bwd (fun i hi ih => ?_)
      have hcov : i < np → Cf X yX11_covers cX11_covers 6 (some .long) 2 [.ref 124, .int (nI f), .int (nI i)] n SH zW ML MR (some (.long (H i))) zW ML MR := fun hlt => by
        have h := c_X11_covers (X := X) (n := n) (MI := zW) (ML := ML) (MR := MR) (f := f) (i := i) (K := K) (nd := ndx (rqL V (nI f) A b)) hM hf (by omega) q1 q2 q3 (q6 i hlt).1 (q6 i hlt).2
        have e : heldL (ML 125 ((fun i => (plR V ML A f).getD i 0) i)) (fun k => ML 125 (ndx (rqL V (nI f) A b) k)) K = H i := by rw [hHK]; rfl
        rw [e] at h
        exact h
      have hcb : Cf X yX11_coveredBut cX11_coveredBut 6 (some .long) 3 [.ref 124, .int (nI f), .int (nI i)] n SH zW ML MR (some (.long (cbO H (nI i) np))) zW ML MR := by
        have h := c_X11_coveredBut (X := X) (n := n) (MI := zW) (ML := ML) (MR := MR) (x := nI i) hM hf zNP
        rw [hHK]
        exact h
      refine r_iload 0 rfl dX11_needed_36 ?_
      refine r_aload_n 3 rfl dX11_needed_38 ?_
      refine r_getr dX11_needed_39 fl_X11_77 rfl (hM _ _ _ rfl) ?_
      refine r_iload_n 4 rfl dX11_needed_42 ?_
      refine r_iald dX11_needed_43 rfl (vp_in_nI hf (by decide)) ?_
      refine r_icmpge (tgt := 85) dX11_needed_44 (by decide) (fun zh44 => ?_) (fun zh44 => ?_)
      · rw [cf, q5] at zh44
        obtain rfl : np = i := by have := geL (k := np) (by omega) (by omega) zh44; omega
        refine r_aload_n 3 rfl dX11_needed_85 ?_
        refine r_iload_n 1 rfl dX11_needed_86 ?_
        refine r_Vf [.int _] dX11_needed_87 lk_X11_267 mb_X11_good in_X11_good se_X11_good rfl (c_X11_good) rfl rfl rfl (Nat.le_of_ble_eq_true rfl) (rfl) ?_
        exact r_iret hG dX11_needed_90 (rq_end (by rw [← hV]; exact rF_tr ndM_F (rpF_F zF)) (fun _ _ => rfl) (by rw [← hV]; exact zC1) (by rw [if_pos h1, cf, ← hHe, ← hnp]; exact ⟨rfl, rfl⟩))
      · rw [cf, q5] at zh44
        have hlt : i < np := ltL (by omega) zh44
        refine r_iload_n 1 rfl dX11_needed_47 ?_
        refine r_aload_n 3 rfl dX11_needed_48 ?_
        refine r_iload_n 4 rfl dX11_needed_49 ?_
        refine r_iload 0 rfl dX11_needed_50 ?_
        refine r_Vf [.int _, .int _] dX11_needed_52 lk_X11_394 mb_X11_covers in_X11_covers se_X11_covers rfl (hcov hlt) rfl rfl rfl (Nat.le_of_ble_eq_true rfl) (rfl) ?_
        refine r_aload_n 3 rfl dX11_needed_55 ?_
        refine r_iload_n 4 rfl dX11_needed_56 ?_
        refine r_iload 0 rfl dX11_needed_57 ?_
        refine r_Vf [.int _, .int _] dX11_needed_59 lk_X11_398 mb_X11_coveredBut in_X11_coveredBut se_X11_coveredBut rfl (hcb) rfl rfl rfl (Nat.le_of_ble_eq_true rfl) (rfl) ?_
        refine r_ldc2 kl_X11_117 dX11_needed_62 ?_
        refine r_lxor dX11_needed_65 ?_
        refine r_land dX11_needed_66 ?_
        refine r_lconst (v := 0) rfl dX11_needed_67 ?_
        refine r_lcmp dX11_needed_68 ?_
        refine r_ifeq (tgt := 76) dX11_needed_69 (by decide) (fun zh69 => ?_) (fun zh69 => ?_)
        · refine r_iconst (v := 0) rfl dX11_needed_76 ?_
          refine r_iadd dX11_needed_77 ?_
          refine r_nmi (fun zv78 ze78 => ?_)
          refine r_istore_n (ls2 := [(3, .int zv78), (4, .int (nI i)), (2, .int (rTr V (nI f))), (0, .ref 124), (1, .int (nI f))]) dX11_needed_78 (by decide) rfl ?_
          refine r_iinc (v := (nI (i + 1))) (ls2 := [(4, .int (nI (i + 1))), (3, .int zv78), (2, .int (rTr V (nI f))), (0, .ref 124), (1, .int (nI f))]) 1 dX11_needed_79 rfl (x_inc i) (by decide) rfl ?_
          refine r_goto (tgt := 36) dX11_needed_82 (by decide) ?_
          obtain rfl : zv78 = nI (ndN H np (i + 1)) := by
            rw [ze78, ndN]
            first
              | (have y1 : H i &&& (cbO H (nI i) np ^^^ -1) = 0 := lcmp_eq.mp zh69
                 rw [if_pos y1]; exact nI_add _ 0)
              | (have y1 : ¬ H i &&& (cbO H (nI i) np ^^^ -1) = 0 := fun q => zh69 (lcmp_eq.mpr q)
                 rw [if_neg y1]; exact nI_add _ 1)
          exact r_sub [0, 1, 2, 3, 4] rfl (ih hlt)
        · refine r_iconst (v := 1) rfl dX11_needed_72 ?_
          refine r_goto (tgt := 77) dX11_needed_73 (by decide) ?_
          refine r_iadd dX11_needed_77 ?_
          refine r_nmi (fun zv78 ze78 => ?_)
          refine r_istore_n (ls2 := [(3, .int zv78), (4, .int (nI i)), (2, .int (rTr V (nI f))), (0, .ref 124), (1, .int (nI f))]) dX11_needed_78 (by decide) rfl ?_
          refine r_iinc (v := (nI (i + 1))) (ls2 := [(4, .int (nI (i + 1))), (3, .int zv78), (2, .int (rTr V (nI f))), (0, .ref 124), (1, .int (nI f))]) 1 dX11_needed_79 rfl (x_inc i) (by decide) rfl ?_
          refine r_goto (tgt := 36) dX11_needed_82 (by decide) ?_
          obtain rfl : zv78 = nI (ndN H np (i + 1)) := by
            rw [ze78, ndN]
            first
              | (have y1 : H i &&& (cbO H (nI i) np ^^^ -1) = 0 := lcmp_eq.mp zh69
                 rw [if_pos y1]; exact nI_add _ 0)
              | (have y1 : ¬ H i &&& (cbO H (nI i) np ^^^ -1) = 0 := fun q => zh69 (lcmp_eq.mpr q)
                 rw [if_neg y1]; exact nI_add _ 1)
          exact r_sub [0, 1, 2, 3, 4] rfl (ih hlt)
    refine r_aload_n 0 rfl dX11_needed_0 ?_
    refine r_iconst (v := 0) rfl dX11_needed_1 ?_
    refine r_puti dX11_needed_2 fl_X11_3 rfl rfl rfl ?_
    refine r_mem hV.symm rfl rfl ?_
    refine r_aload_n 0 rfl dX11_needed_5 ?_
    refine r_iload_n 1 rfl dX11_needed_6 ?_
    refine r_Vf [.int _] dX11_needed_7 lk_X11_344 mb_X11_refuses in_X11_refuses se_X11_refuses rfl (c_X11_refuses) rfl rfl rfl (Nat.le_of_ble_eq_true rfl) (rfl) ?_
    refine r_istore_n (ls2 := [(2, .int (rTr V (nI f))), (0, .ref 124), (1, .int (nI f))]) dX11_needed_10 (by decide) rfl ?_
    refine r_iload_n 0 rfl dX11_needed_11 ?_
    refine r_ifle (tgt := 21) dX11_needed_12 (by decide) (fun zh12 => ?_) (fun zh12 => ?_)
    rotate_left
    · exact absurd zh12 (fun q => q (by rw [h1]; exact Int32.le_refl 0))
    refine r_aload_n 1 rfl dX11_needed_21 ?_
    refine r_iload_n 2 rfl dX11_needed_22 ?_
    refine r_Vn [.int _] dX11_needed_23 lk_X11_373 mb_X11_needsOf in_X11_needsOf se_X11_needsOf rfl (c_X11_needsOf hM hA hS hAr hP hb hbr) rfl rfl rfl (Nat.le_of_ble_eq_true rfl) (rfl) ?_
    refine r_aload_n 1 rfl dX11_needed_26 ?_
    refine r_iload_n 2 rfl dX11_needed_27 ?_
    refine r_Vg [.int _] dX11_needed_28 lk_X11_391 mb_X11_primesOf in_X11_primesOf se_X11_primesOf rfl (c_X11_primesOf hM hA hS hAn hPn hf (rI_nd hcV.1) hpln (fun g _ => plR_len _ _ _ _)) rfl rfl rfl (Nat.le_of_ble_eq_true rfl) (rfl) (fun r zW zB zC hz => ?_)
    obtain ⟨rfl, rfl, rfl, zF, zI, z1⟩ := hz
    show RW X G _ _ _ _ _ _ _ _ _ _ _ _ _ []
    refine r_iconst (v := 0) rfl dX11_needed_31 ?_
    refine r_istore_n (ls2 := [(3, .int 0), (2, .int (rTr V (nI f))), (0, .ref 124), (1, .int (nI f))]) dX11_needed_32 (by decide) rfl ?_
    refine r_iconst (v := 0) rfl dX11_needed_33 ?_
    refine r_istore (ls2 := [(4, .int 0), (3, .int 0), (2, .int (rTr V (nI f))), (0, .ref 124), (1, .int (nI f))]) dX11_needed_34 (by decide) rfl ?_
    exact r_sub [0, 1, 2, 3, 4] rfl (loop zW zF zI z1 0 (Nat.zero_le _))
  · have hp : 0 < rTr V x := rTr_0.resolve_left h1
    refine Ct_of (by decide) (Nat.le_of_ble_eq_true rfl) (fun G hG => ?_)
    refine r_aload_n 0 rfl dX11_needed_0 ?_
    refine r_iconst (v := 0) rfl dX11_needed_1 ?_
    refine r_puti dX11_needed_2 fl_X11_3 rfl rfl rfl ?_
    refine r_mem hV.symm rfl rfl ?_
    refine r_aload_n 0 rfl dX11_needed_5 ?_
    refine r_iload_n 1 rfl dX11_needed_6 ?_
    refine r_Vf [.int _] dX11_needed_7 lk_X11_344 mb_X11_refuses in_X11_refuses se_X11_refuses rfl (c_X11_refuses) rfl rfl rfl (Nat.le_of_ble_eq_true rfl) (rfl) ?_
    refine r_istore_n (ls2 := [(2, .int (rTr V x)), (0, .ref 124), (1, .int x)]) dX11_needed_10 (by decide) rfl ?_
    refine r_iload_n 0 rfl dX11_needed_11 ?_
    refine r_ifle (tgt := 21) dX11_needed_12 (by decide) (fun zh12 => ?_) (fun zh12 => ?_)
    · exact absurd zh12 (Int32.not_le.mpr hp)
    refine r_aload_n 1 rfl dX11_needed_15 ?_
    refine r_iload_n 0 rfl dX11_needed_16 ?_
    refine r_Vf [.int _] dX11_needed_17 lk_X11_251 mb_X11_refused in_X11_refused se_X11_refused rfl (c_X11_refused) rfl rfl rfl (Nat.le_of_ble_eq_true rfl) (rfl) ?_
    exact r_iret hG dX11_needed_20 (rq_end (by rw [← hV]; exact rF_rf _) (fun _ _ => rfl) (by rw [← hV]; exact hcV) (by rw [if_neg h1]; exact ⟨rfl, rfl⟩))
set_option maxRecDepth 100000 in
theorem c_X11_lacking (hM : x_Lay MR) {A S b : Nat} (hm : rMc MI A S b) (hc : rCc MI ML A b MI) {x : Int32} : Ct X yX11_lacking cX11_lacking 3 (some .int) 8 0 0 [.ref 124, .int x] n SH MI ML MR n SH (rQ MI ML MR A b (fun _ a w => if rTr (th MI) x = 0 then a = opt2 (lcO (cbO (hhR (th MI) ML A b x.toNatClampNeg) (-1) (plR (th MI) ML A x.toNatClampNeg).length) (rqL (th MI) (nI x.toNatClampNeg) A b).length) ∧ w = 0 else a = -1 ∧ w = rTr (th MI) x)) := by
  obtain ⟨V, hV⟩ : ∃ V, V = th MI := ⟨_, rfl⟩
  have hmV : rMc V A S b := by rw [hV]; exact rMc_th hm
  have hcV : rCc V ML A b V := by rw [hV]; exact rCc_th hc
  rw [← hV]
  obtain ⟨hA, hS, hAr, hP, hb, hbr⟩ := hmV
  by_cases h1 : rTr V x = 0
  · obtain ⟨f, hf, rfl⟩ := rTr_f h1
    have cf : (nI f).toNatClampNeg = f := nI_clamp (by omega)
    refine Ct_of (by decide) (Nat.le_of_ble_eq_true rfl) (fun G hG => ?_)
    refine r_aload_n 0 rfl dX11_lacking_0 ?_
    refine r_iconst (v := 0) rfl dX11_lacking_1 ?_
    refine r_puti dX11_lacking_2 fl_X11_3 rfl rfl rfl ?_
    refine r_mem hV.symm rfl rfl ?_
    refine r_aload_n 0 rfl dX11_lacking_5 ?_
    refine r_iload_n 1 rfl dX11_lacking_6 ?_
    refine r_Vf [.int _] dX11_lacking_7 lk_X11_344 mb_X11_refuses in_X11_refuses se_X11_refuses rfl (c_X11_refuses) rfl rfl rfl (Nat.le_of_ble_eq_true rfl) (rfl) ?_
    refine r_istore_n (ls2 := [(2, .int (rTr V (nI f))), (0, .ref 124), (1, .int (nI f))]) dX11_lacking_10 (by decide) rfl ?_
    refine r_iload_n 0 rfl dX11_lacking_11 ?_
    refine r_ifle (tgt := 21) dX11_lacking_12 (by decide) (fun zh12 => ?_) (fun zh12 => ?_)
    rotate_left
    · exact absurd zh12 (fun q => q (by rw [h1]; exact Int32.le_refl 0))
    refine r_aload_n 1 rfl dX11_lacking_21 ?_
    refine r_aload_n 1 rfl dX11_lacking_22 ?_
    refine r_iload_n 2 rfl dX11_lacking_23 ?_
    refine r_Vg [.int _] dX11_lacking_24 lk_X11_401 mb_X11_lackingNow in_X11_lackingNow se_X11_lackingNow rfl (c_X11_lackingNow (H := hhR V ML A b f) hM hA hS hAr hP hb hbr hf hcV.1 rfl (fun g _ => plR_len _ _ _ _) rfl rfl) rfl rfl rfl (Nat.le_of_ble_eq_true rfl) (rfl) (fun r zW zB zC hz => ?_)
    obtain ⟨rfl, zeB, rfl, zF, zI, z1, -, z141, z145, z146, z140⟩ := hz
    rw [zeB]
    have zC1 : rCc V ML A b zW := ⟨zI, fun g hg => by
      rw [z141, z145, z146]
      rcases hcV.2 g hg with z | ⟨y1, y2, y3⟩
      · exact Or.inl z
      · exact Or.inr ⟨y1, z140 g hg y2, y3⟩⟩
    show RW X G _ _ _ _ _ _ _ _ _ _ _ _ _ (.int (opt2 (lcO (cbO (hhR V ML A b f) (-1) (plR V ML A f).length) (rqL V (nI f) A b).length)) :: [.ref 124])
    refine r_Vf [.int _] dX11_lacking_27 lk_X11_267 mb_X11_good in_X11_good se_X11_good rfl (c_X11_good) rfl rfl rfl (Nat.le_of_ble_eq_true rfl) (rfl) ?_
    exact r_iret hG dX11_lacking_30 (rq_end (by rw [← hV]; exact zF) (fun _ _ => rfl) (by rw [← hV]; exact zC1) (by rw [if_pos h1, cf]; exact ⟨rfl, rfl⟩))
  · have hp : 0 < rTr V x := rTr_0.resolve_left h1
    refine Ct_of (by decide) (Nat.le_of_ble_eq_true rfl) (fun G hG => ?_)
    refine r_aload_n 0 rfl dX11_lacking_0 ?_
    refine r_iconst (v := 0) rfl dX11_lacking_1 ?_
    refine r_puti dX11_lacking_2 fl_X11_3 rfl rfl rfl ?_
    refine r_mem hV.symm rfl rfl ?_
    refine r_aload_n 0 rfl dX11_lacking_5 ?_
    refine r_iload_n 1 rfl dX11_lacking_6 ?_
    refine r_Vf [.int _] dX11_lacking_7 lk_X11_344 mb_X11_refuses in_X11_refuses se_X11_refuses rfl (c_X11_refuses) rfl rfl rfl (Nat.le_of_ble_eq_true rfl) (rfl) ?_
    refine r_istore_n (ls2 := [(2, .int (rTr V x)), (0, .ref 124), (1, .int x)]) dX11_lacking_10 (by decide) rfl ?_
    refine r_iload_n 0 rfl dX11_lacking_11 ?_
    refine r_ifle (tgt := 21) dX11_lacking_12 (by decide) (fun zh12 => ?_) (fun zh12 => ?_)
    · exact absurd zh12 (Int32.not_le.mpr hp)
    refine r_aload_n 1 rfl dX11_lacking_15 ?_
    refine r_iload_n 0 rfl dX11_lacking_16 ?_
    refine r_Vf [.int _] dX11_lacking_17 lk_X11_251 mb_X11_refused in_X11_refused se_X11_refused rfl (c_X11_refused) rfl rfl rfl (Nat.le_of_ble_eq_true rfl) (rfl) ?_
    exact r_iret hG dX11_lacking_20 (rq_end (by rw [← hV]; exact rF_rf _) (fun _ _ => rfl) (by rw [← hV]; exact hcV) (by rw [if_neg h1]; exact ⟨rfl, rfl⟩))
set_option maxRecDepth 100000 in
theorem c_X11_fewest (hM : x_Lay MR) {A S b : Nat} (hm : rMc MI A S b) (hc : rCc MI ML A b MI) {x : Int32} : Ct X yX11_fewest cX11_fewest 3 (some .int) 10 0 0 [.ref 124, .int x] n SH MI ML MR n SH (rQ MI ML MR A b (fun W a w => if rTr (th MI) x = 0 then a = W 145 x.toNatClampNeg ∧ W 141 x.toNatClampNeg = 1 ∧ w = 0 else a = -1 ∧ w = rTr (th MI) x)) := by
  obtain ⟨V, hV⟩ : ∃ V, V = th MI := ⟨_, rfl⟩
  have hmV : rMc V A S b := by rw [hV]; exact rMc_th hm
  have hcV : rCc V ML A b V := by rw [hV]; exact rCc_th hc
  rw [← hV]
  obtain ⟨hA, hS, hAr, hP, hb, hbr⟩ := hmV
  by_cases h1 : rTr V x = 0
  · obtain ⟨f, hf, rfl⟩ := rTr_f h1
    have cf : (nI f).toNatClampNeg = f := nI_clamp (by omega)
    refine Ct_of (by decide) (Nat.le_of_ble_eq_true rfl) (fun G hG => ?_)
    refine r_aload_n 0 rfl dX11_fewest_0 ?_
    refine r_iconst (v := 0) rfl dX11_fewest_1 ?_
    refine r_puti dX11_fewest_2 fl_X11_3 rfl rfl rfl ?_
    refine r_mem hV.symm rfl rfl ?_
    refine r_aload_n 0 rfl dX11_fewest_5 ?_
    refine r_iload_n 1 rfl dX11_fewest_6 ?_
    refine r_Vf [.int _] dX11_fewest_7 lk_X11_344 mb_X11_refuses in_X11_refuses se_X11_refuses rfl (c_X11_refuses) rfl rfl rfl (Nat.le_of_ble_eq_true rfl) (rfl) ?_
    refine r_istore_n (ls2 := [(2, .int (rTr V (nI f))), (0, .ref 124), (1, .int (nI f))]) dX11_fewest_10 (by decide) rfl ?_
    refine r_iload_n 0 rfl dX11_fewest_11 ?_
    refine r_ifle (tgt := 21) dX11_fewest_12 (by decide) (fun zh12 => ?_) (fun zh12 => ?_)
    rotate_left
    · exact absurd zh12 (fun q => q (by rw [h1]; exact Int32.le_refl 0))
    refine r_aload_n 1 rfl dX11_fewest_21 ?_
    refine r_iload_n 2 rfl dX11_fewest_22 ?_
    refine r_Vg [.int _] dX11_fewest_23 lk_X11_412 mb_X11_coversBest in_X11_coversBest se_X11_coversBest rfl (c_X11_coversBest hM hA hS hAr hP hb hbr hf hcV.1 hcV.2) rfl rfl rfl (Nat.le_of_ble_eq_true rfl) (rfl) (fun r zW zB zC hz => ?_)
    obtain ⟨rfl, rfl, zB1, zF, zI, zJ, z1, -⟩ := hz
    show RW X G _ _ _ _ _ _ _ _ _ _ _ _ _ []
    refine r_aload_n 1 rfl dX11_fewest_26 ?_
    refine r_aload_n 1 rfl dX11_fewest_27 ?_
    refine r_getr dX11_fewest_28 fl_X11_83 rfl (hM _ _ _ rfl) ?_
    refine r_iload_n 2 rfl dX11_fewest_31 ?_
    refine r_iald dX11_fewest_32 rfl (vp_in_nI hf (by decide)) ?_
    rw [cf]
    refine r_Vf [.int _] dX11_fewest_33 lk_X11_267 mb_X11_good in_X11_good se_X11_good rfl (c_X11_good) rfl rfl rfl (Nat.le_of_ble_eq_true rfl) (rfl) ?_
    exact r_iret hG dX11_fewest_36 (rq_end (by rw [← hV]; exact zF) zB1 (by rw [← hV]; exact ⟨zI, zJ⟩) (by rw [if_pos h1, cf]; exact ⟨rfl, z1, rfl⟩))
  · have hp : 0 < rTr V x := rTr_0.resolve_left h1
    refine Ct_of (by decide) (Nat.le_of_ble_eq_true rfl) (fun G hG => ?_)
    refine r_aload_n 0 rfl dX11_fewest_0 ?_
    refine r_iconst (v := 0) rfl dX11_fewest_1 ?_
    refine r_puti dX11_fewest_2 fl_X11_3 rfl rfl rfl ?_
    refine r_mem hV.symm rfl rfl ?_
    refine r_aload_n 0 rfl dX11_fewest_5 ?_
    refine r_iload_n 1 rfl dX11_fewest_6 ?_
    refine r_Vf [.int _] dX11_fewest_7 lk_X11_344 mb_X11_refuses in_X11_refuses se_X11_refuses rfl (c_X11_refuses) rfl rfl rfl (Nat.le_of_ble_eq_true rfl) (rfl) ?_
    refine r_istore_n (ls2 := [(2, .int (rTr V x)), (0, .ref 124), (1, .int x)]) dX11_fewest_10 (by decide) rfl ?_
    refine r_iload_n 0 rfl dX11_fewest_11 ?_
    refine r_ifle (tgt := 21) dX11_fewest_12 (by decide) (fun zh12 => ?_) (fun zh12 => ?_)
    · exact absurd zh12 (Int32.not_le.mpr hp)
    refine r_aload_n 1 rfl dX11_fewest_15 ?_
    refine r_iload_n 0 rfl dX11_fewest_16 ?_
    refine r_Vf [.int _] dX11_fewest_17 lk_X11_251 mb_X11_refused in_X11_refused se_X11_refused rfl (c_X11_refused) rfl rfl rfl (Nat.le_of_ble_eq_true rfl) (rfl) ?_
    exact r_iret hG dX11_fewest_20 (rq_end (by rw [← hV]; exact rF_rf _) (fun _ _ => rfl) (by rw [← hV]; exact hcV) (by rw [if_neg h1]; exact ⟨rfl, rfl⟩))
theorem rcT_u {W : Mi} {w : Int32} (x : Int32) : rcT (rfM W w) x = rcT W x := rfl
theorem rcT_0 {W : Mi} {x : Int32} (h : rcT W x = 0) : rTr W x = 0 ∧ ∃ f, f < 5 ∧ x = nI f ∧ inB (W 145 f) 0 5 = true := by
  unfold rcT at h
  split at h
  · rename_i z
    obtain ⟨f, hf, rfl⟩ := rTr_f z
    rw [nI_clamp (show f < 2 ^ 31 by omega)] at h
    split at h
    · exact ⟨z, f, hf, rfl, by assumption⟩
    · exact absurd h (by decide)
  · rename_i z; exact absurd h z
theorem rcT_p {W : Mi} {x : Int32} (h : ¬ rcT W x = 0) : 0 < rcT W x := by
  unfold rcT at h ⊢
  split
  · rename_i z
    rw [if_pos z] at h
    split
    · rename_i y; rw [if_pos y] at h; exact absurd rfl h
    · decide
  · rename_i z
    exact rTr_0.resolve_left z
set_option maxRecDepth 100000 in
theorem c_X11_chosen (hM : x_Lay MR) {A S b : Nat} (hm : rMc MI A S b) (hc : rCc MI ML A b MI) {x y : Int32} : Ct X yX11_chosen cX11_chosen 4 (some .int) 12 0 0 [.ref 124, .int x, .int y] n SH MI ML MR n SH (rQ MI ML MR A b (fun W a w => (rTr W x = 0 → W 141 x.toNatClampNeg = 1) ∧ if rcT W x = 0 then (if inR y (W 145 x.toNatClampNeg) = true then a = W 146 (5 * x.toNatClampNeg + y.toNatClampNeg) ∧ w = 0 else a = -1 ∧ w = 1) else a = -1 ∧ w = rcT W x)) := by
  obtain ⟨V, hV⟩ : ∃ V, V = th MI := ⟨_, rfl⟩
  have hmV : rMc V A S b := by rw [hV]; exact rMc_th hm
  have hcV : rCc V ML A b V := by rw [hV]; exact rCc_th hc
  refine Ct_of (by decide) (Nat.le_of_ble_eq_true rfl) (fun G hG => ?_)
  have j31 : ∀ zW zB t, (∀ c, c ≠ 148 → zB c = ML c) → rF V zW → rCc V ML A b zW → (rTr zW x = 0 → zW 141 x.toNatClampNeg = 1) → t = (if rcT zW x = 0 then (if inR y (zW 145 x.toNatClampNeg) = true then 0 else 1) else rcT zW x) → RW X G RX11 cX11_chosen 4 (x_rm 12 0 0) n SH zW zB MR 0 0 31 [(3, .int t), (0, .ref 124), (1, .int x), (2, .int y)] [] := by
    intro zW zB t zB1 zF zC1 z1 ht
    have hend : ∀ a w, (if rcT zW x = 0 then (if inR y (zW 145 x.toNatClampNeg) = true then a = zW 146 (5 * x.toNatClampNeg + y.toNatClampNeg) ∧ w = 0 else a = -1 ∧ w = 1) else a = -1 ∧ w = rcT zW x) → rQ MI ML MR A b (fun W a w => (rTr W x = 0 → W 141 x.toNatClampNeg = 1) ∧ if rcT W x = 0 then (if inR y (W 145 x.toNatClampNeg) = true then a = W 146 (5 * x.toNatClampNeg + y.toNatClampNeg) ∧ w = 0 else a = -1 ∧ w = 1) else a = -1 ∧ w = rcT W x) (some (.int a)) (rfM zW w) zB MR := fun a w h => rq_end (by rw [← hV]; exact zF) zB1 (by rw [← hV]; exact zC1) ⟨z1, h⟩
    by_cases h1 : rcT zW x = 0
    · obtain ⟨h0, f, hf, rfl, hb5⟩ := rcT_0 h1
      have cf : (nI f).toNatClampNeg = f := nI_clamp (by omega)
      rw [cf] at ht
      obtain ⟨q, hq, hqe⟩ := inB_ex (N := 5) (by decide) hb5
      by_cases h2 : inR y (zW 145 f) = true
      · obtain ⟨k, hk, rfl⟩ : ∃ k, k < q ∧ y = nI k := by
          rw [hqe] at h2
          exact inR_ex (by omega) (inR_t.mp h2).1 (inR_t.mp h2).2
        have eix : (5 : Int32) * nI f + nI k = nI (5 * f + k) := by
          have h1 := pk_mul 5 f
          have h2 := nI_add (5 * f) k
          rw [← h1] at h2
          exact h2
        rw [if_pos h1, if_pos h2] at ht
        subst ht
        refine r_iload_n 0 rfl dX11_chosen_31 ?_
        refine r_ifle (tgt := 41) dX11_chosen_32 (by decide) (fun zh32 => ?_) (fun zh32 => ?_)
        rotate_left
        · exact absurd zh32 (by decide)
        refine r_aload_n 1 rfl dX11_chosen_41 ?_
        refine r_aload_n 1 rfl dX11_chosen_42 ?_
        refine r_getr dX11_chosen_43 fl_X11_86 rfl (hM _ _ _ rfl) ?_
        refine r_iconst (v := 5) rfl dX11_chosen_46 ?_
        refine r_iload_n 2 rfl dX11_chosen_47 ?_
        refine r_imul dX11_chosen_48 ?_
        refine r_iload_n 3 rfl dX11_chosen_49 ?_
        refine r_iadd dX11_chosen_50 ?_
        refine r_iald dX11_chosen_51 rfl (by rw [eix]; exact vp_in_nI (show 5 * f + k < 25 by omega) (by decide)) ?_
        rw [eix, nI_clamp (by omega)]
        refine r_Vf [.int _] dX11_chosen_52 lk_X11_267 mb_X11_good in_X11_good se_X11_good rfl (c_X11_good) rfl rfl rfl (Nat.le_of_ble_eq_true rfl) (rfl) ?_
        exact r_iret hG dX11_chosen_55 (hend _ _ (by rw [cf, if_pos h1, if_pos h2, nI_clamp (show k < 2 ^ 31 by omega)]; exact ⟨rfl, rfl⟩))
      · rw [if_pos h1, if_neg h2] at ht
        subst ht
        refine r_iload_n 0 rfl dX11_chosen_31 ?_
        refine r_ifle (tgt := 41) dX11_chosen_32 (by decide) (fun zh32 => ?_) (fun zh32 => ?_)
        · exact absurd zh32 (by decide)
        refine r_aload_n 1 rfl dX11_chosen_35 ?_
        refine r_iload_n 0 rfl dX11_chosen_36 ?_
        refine r_Vf [.int _] dX11_chosen_37 lk_X11_251 mb_X11_refused in_X11_refused se_X11_refused rfl (c_X11_refused) rfl rfl rfl (Nat.le_of_ble_eq_true rfl) (rfl) ?_
        exact r_iret hG dX11_chosen_40 (hend _ _ (by rw [cf, if_pos h1, if_neg h2]; exact ⟨rfl, rfl⟩))
    · rw [if_neg h1] at ht
      refine r_iload_n 0 rfl dX11_chosen_31 ?_
      refine r_ifle (tgt := 41) dX11_chosen_32 (by decide) (fun zh32 => ?_) (fun zh32 => ?_)
      · exact absurd zh32 (by rw [ht]; exact Int32.not_le.mpr (rcT_p h1))
      refine r_aload_n 1 rfl dX11_chosen_35 ?_
      refine r_iload_n 0 rfl dX11_chosen_36 ?_
      refine r_Vf [.int _] dX11_chosen_37 lk_X11_251 mb_X11_refused in_X11_refused se_X11_refused rfl (c_X11_refused) rfl rfl rfl (Nat.le_of_ble_eq_true rfl) (rfl) ?_
      exact r_iret hG dX11_chosen_40 (hend _ _ (by rw [if_neg h1]; exact ⟨rfl, ht⟩))
  refine r_aload_n 0 rfl dX11_chosen_0 ?_
  refine r_iconst (v := 0) rfl dX11_chosen_1 ?_
  refine r_puti dX11_chosen_2 fl_X11_3 rfl rfl rfl ?_
  refine r_mem hV.symm rfl rfl ?_
  refine r_aload_n 0 rfl dX11_chosen_5 ?_
  refine r_iload_n 1 rfl dX11_chosen_6 ?_
  refine r_Vg [.int _] dX11_chosen_7 lk_X11_418 mb_X11_refusesCover in_X11_refusesCover se_X11_refusesCover rfl (c_X11_refusesCover hM hmV hcV) rfl rfl rfl (Nat.le_of_ble_eq_true rfl) (rfl) (fun r zW zB zC hz => ?_)
  obtain ⟨rfl, zB1, zF, zC1, z1, rfl⟩ := hz
  show RW X G _ _ _ _ _ _ _ _ _ _ _ _ _ [.int (rcT zW x)]
  refine r_istore_n (ls2 := [(3, .int (rcT zW x)), (0, .ref 124), (1, .int x), (2, .int y)]) dX11_chosen_10 (by decide) rfl ?_
  refine r_iload_n 0 rfl dX11_chosen_11 ?_
  refine r_ifne (tgt := 31) dX11_chosen_12 (by decide) (fun zh12 => ?_) (fun zh12 => ?_)
  · first
      | exact j31 zW zB _ zB1 zF zC1 z1 (by rw [if_neg zh12])
      | exact j31 zW zB _ zB1 zF zC1 z1 (by rw [if_pos zh12, if_neg (show ¬ inR y (zW 145 x.toNatClampNeg) = true from fun z => (inR_t.mp z).1 zh16)])
      | exact j31 zW zB _ zB1 zF zC1 z1 (by rw [if_pos zh12, if_neg (show ¬ inR y (zW 145 x.toNatClampNeg) = true from fun z => (inR_t.mp z).2 (Int32.not_lt.mp zh26))])
      | exact j31 zW zB _ zB1 zF zC1 z1 (by rw [if_pos zh12, if_pos (show inR y (zW 145 x.toNatClampNeg) = true from inR_t.mpr ⟨zh16, Int32.not_le.mpr zh26⟩)]; exact zh12)
  · refine r_iload_n 3 rfl dX11_chosen_15 ?_
    refine r_iflt (tgt := 29) dX11_chosen_16 (by decide) (fun zh16 => ?_) (fun zh16 => ?_)
    · refine r_iconst (v := 1) rfl dX11_chosen_29 ?_
      refine r_istore_n (ls2 := [(3, .int 1), (0, .ref 124), (1, .int x), (2, .int y)]) dX11_chosen_30 (by decide) rfl ?_
      first
        | exact j31 zW zB _ zB1 zF zC1 z1 (by rw [if_neg zh12])
        | exact j31 zW zB _ zB1 zF zC1 z1 (by rw [if_pos zh12, if_neg (show ¬ inR y (zW 145 x.toNatClampNeg) = true from fun z => (inR_t.mp z).1 zh16)])
        | exact j31 zW zB _ zB1 zF zC1 z1 (by rw [if_pos zh12, if_neg (show ¬ inR y (zW 145 x.toNatClampNeg) = true from fun z => (inR_t.mp z).2 (Int32.not_lt.mp zh26))])
        | exact j31 zW zB _ zB1 zF zC1 z1 (by rw [if_pos zh12, if_pos (show inR y (zW 145 x.toNatClampNeg) = true from inR_t.mpr ⟨zh16, Int32.not_le.mpr zh26⟩)]; exact zh12)
    · obtain ⟨zr0, zf, zf5, zfe, zb5⟩ := rcT_0 zh12
      refine r_iload_n 3 rfl dX11_chosen_19 ?_
      refine r_aload_n 1 rfl dX11_chosen_20 ?_
      refine r_getr dX11_chosen_21 fl_X11_83 rfl (hM _ _ _ rfl) ?_
      refine r_iload_n 2 rfl dX11_chosen_24 ?_
      refine r_iald dX11_chosen_25 rfl (by rw [zfe]; exact vp_in_nI zf5 (by decide)) ?_
      refine r_icmplt (tgt := 31) dX11_chosen_26 (by decide) (fun zh26 => ?_) (fun zh26 => ?_)
      · first
          | exact j31 zW zB _ zB1 zF zC1 z1 (by rw [if_neg zh12])
          | exact j31 zW zB _ zB1 zF zC1 z1 (by rw [if_pos zh12, if_neg (show ¬ inR y (zW 145 x.toNatClampNeg) = true from fun z => (inR_t.mp z).1 zh16)])
          | exact j31 zW zB _ zB1 zF zC1 z1 (by rw [if_pos zh12, if_neg (show ¬ inR y (zW 145 x.toNatClampNeg) = true from fun z => (inR_t.mp z).2 (Int32.not_lt.mp zh26))])
          | exact j31 zW zB _ zB1 zF zC1 z1 (by rw [if_pos zh12, if_pos (show inR y (zW 145 x.toNatClampNeg) = true from inR_t.mpr ⟨zh16, Int32.not_le.mpr zh26⟩)]; exact zh12)
      · refine r_iconst (v := 1) rfl dX11_chosen_29 ?_
        refine r_istore_n (ls2 := [(3, .int 1), (0, .ref 124), (1, .int x), (2, .int y)]) dX11_chosen_30 (by decide) rfl ?_
        first
          | exact j31 zW zB _ zB1 zF zC1 z1 (by rw [if_neg zh12])
          | exact j31 zW zB _ zB1 zF zC1 z1 (by rw [if_pos zh12, if_neg (show ¬ inR y (zW 145 x.toNatClampNeg) = true from fun z => (inR_t.mp z).1 zh16)])
          | exact j31 zW zB _ zB1 zF zC1 z1 (by rw [if_pos zh12, if_neg (show ¬ inR y (zW 145 x.toNatClampNeg) = true from fun z => (inR_t.mp z).2 (Int32.not_lt.mp zh26))])
          | exact j31 zW zB _ zB1 zF zC1 z1 (by rw [if_pos zh12, if_pos (show inR y (zW 145 x.toNatClampNeg) = true from inR_t.mpr ⟨zh16, Int32.not_le.mpr zh26⟩)]; exact zh12)
end rform2

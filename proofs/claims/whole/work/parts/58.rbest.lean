/-! the reference: coversBest and the calls on it -/
section cgR
variable {V W : Mi} {B D : Nat → Nat → Int64}
theorem flR_cg (h8 : W 128 = V 128) (h6 : W 136 = V 136) (x : Int32) (i : Nat) : flR W x i = flR V x i := by
  unfold flR
  simp only [arR, h8, h6]
theorem bcR_cg (h8 : W 128 = V 128) (h5 : W 135 = V 135) (i : Nat) : bcR W i = bcR V i := by
  unfold bcR
  simp only [arR, h8, h5]
theorem tcR_cg (h8 : W 128 = V 128) (h5 : W 135 = V 135) (i : Nat) : tcR W i = tcR V i := by
  unfold tcR
  simp only [arR, h8, h5]
theorem nqA_cg (h8 : W 128 = V 128) (h5 : W 135 = V 135) (h6 : W 136 = V 136) (x : Int32) (i : Nat) : nqA W x i = nqA V x i := by
  unfold nqA
  rw [bcR_cg h8 h5, tcR_cg h8 h5]
  simp only [arR, h8, h5, h6]
theorem rqA_cg (h8 : W 128 = V 128) (h5 : W 135 = V 135) (h6 : W 136 = V 136) (x : Int32) : ∀ k, rqA W x k = rqA V x k
  | 0 => rfl
  | k + 1 => by rw [rqA, rqA, rqA_cg h8 h5 h6 x k, nqA_cg h8 h5 h6]
theorem rqL_cg2 (h8 : W 128 = V 128) (h5 : W 135 = V 135) (h6 : W 136 = V 136) (x : Int32) (A b : Nat) : rqL W x A b = rqL V x A b := by
  unfold rqL
  rw [rqA_cg h8 h5 h6, h8, h5, h6]
theorem sfP_cg (h8 : W 128 = V 128) (h5 : W 135 = V 135) (h6 : W 136 = V 136) (d5 : D 125 = B 125) (d8 : D 138 = B 138) (f c k : Nat) : sfP W D f c k = sfP V B f c k := by
  unfold sfP ctR
  rw [d5, d8, h8, h5]
  simp only [flR_cg h8 h6, bcR_cg h8 h5, arR, h8]
end cgR
def plR (V : Mi) (B : Nat → Nat → Int64) (A f : Nat) : List Nat := prQ (fun c => sfP V B f c A) (B 125) 729
def hhR (V : Mi) (B : Nat → Nat → Int64) (A b f : Nat) : Nat → Int64 := hH B (rqL V (nI f) A b).length (ndx (rqL V (nI f) A b)) (fun i => (plR V B A f).getD i 0)
def cqF (V : Mi) (B : Nat → Nat → Int64) (A b f : Nat) (c : Int32) (row : Nat → Int32) : Prop := cqR (hhR V B A b f) (plR V B A f).length (rqL V (nI f) A b).length c row
theorem plR_len (V : Mi) (B : Nat → Nat → Int64) (A f : Nat) : (plR V B A f).length ≤ 729 := prQ_len _ _ _
theorem cqR_loc {H : Nat → Int64} {np K : Nat} {c : Int32} {row row2 : Nat → Int32} (h : ∀ k, k < 5 → row2 k = row k) (hc : cqR H np K c row) : cqR H np K c row2 := by
  unfold cqR at hc ⊢
  split at hc
  · rename_i z
    rw [if_pos z]
    obtain ⟨H2, r0, h1, h2, h3⟩ := hc
    exact ⟨H2, r0, h1, h2, fun m hm e k hk => by rw [h k (by omega)]; exact h3 m hm e k hk⟩
  · rename_i z
    rw [if_neg z]
    exact hc
theorem cbO_gb (H : Nat → Int64) {j : Nat} (hj : j < 64) : ∀ np, np < 2 ^ 31 → (gb (cbO H (-1) np) j = true ↔ ∃ i, i < np ∧ gb (H i) j = true)
  | 0, _ => by
    rw [cbO, gb_0]
    exact ⟨fun z => absurd z (by decide), fun ⟨i, hi, _⟩ => absurd hi (Nat.not_lt_zero i)⟩
  | np + 1, h => by
    have hne : ¬ nI np = -1 := fun e => absurd (show nI np < 0 by rw [e]; decide) (nI_pos (by omega))
    rw [cbO, if_neg hne, gb_or, Bool.or_eq_true, cbO_gb H hj np (by omega)]
    constructor
    · rintro (⟨i, hi, z⟩ | z)
      · exact ⟨i, by omega, z⟩
      · exact ⟨np, by omega, z⟩
    · rintro ⟨i, hi, z⟩
      by_cases e : i = np
      · subst e; exact Or.inr z
      · exact Or.inl ⟨i, by omega, z⟩
theorem lcO_none {s : Int64} {K : Nat} (h : lcO s K = none) : ∀ k, k < K → hasL s (nI k) = true := by
  intro k hk
  unfold lcO at h
  rw [List.find?_eq_none] at h
  have := h k (List.mem_range.mpr hk)
  cases z : hasL s (nI k)
  · rw [z] at this; exact absurd rfl this
  · rfl
theorem opt2_none {q : Option Nat} {A : Nat} (hA : A < 2 ^ 31) (h : ∀ i, q = some i → i < A) : opt2 q = -2 ↔ q = none := by
  cases q with
  | none => exact ⟨fun _ => rfl, fun _ => rfl⟩
  | some i =>
    have hi := h i rfl
    refine ⟨fun e => ?_, fun e => by cases e⟩
    have := nI_pos (n := i) (by omega)
    rw [show nI i = -2 from e] at this
    exact absurd (show (-2 : Int32) < 0 by decide) this
section rbest
variable {X : xG} {n : Nat} {MI : Nat → Nat → Int32} {ML : Nat → Nat → Int64} {MR : Nat → Nat → Option Nat}
def kpR (f : Nat) (MI W : Mi) : Prop := ∀ g, g < 5 → g ≠ f → W 141 g = MI 141 g ∧ W 145 g = MI 145 g ∧ ∀ k, k < 5 → W 146 (5 * g + k) = MI 146 (5 * g + k)
set_option maxRecDepth 100000 in
theorem c_X11_coversBest (hM : x_Lay MR) {A S b f : Nat} (hA : A ≤ 8) (hS : S ≤ 6) (hAr : MI 128 6 = nI A) (hP : okA (arR MI) A S) (hb : b < 6) (hbr : MI 130 1 = nI b) (hf : f < 5) (hI : rI (plR MI ML A) MI) (hJ : rJ (cqF MI ML A b) MI) : Ct X yX11_coversBest cX11_coversBest 6 none 9 0 0 [.ref 124, .int (nI f)] n SH MI ML MR n SH (fun r0 W B C => r0 = none ∧ C = MR ∧ (∀ c, c ≠ 148 → B c = ML c) ∧ rF MI W ∧ rI (plR MI ML A) W ∧ rJ (cqF MI ML A b) W ∧ W 141 f = 1 ∧ kpR f MI W) := by
  have cf : (nI f).toNatClampNeg = f := nI_clamp (by omega)
  obtain ⟨K, hKe⟩ : ∃ K, K = (rqL MI (nI f) A b).length := ⟨_, rfl⟩
  have hK : K ≤ 33 := by rw [hKe]; exact rqL_len MI (nI f) b hA
  obtain ⟨np, hnp⟩ : ∃ np, np = (plR MI ML A f).length := ⟨_, rfl⟩
  have hn9 : np ≤ 729 := by rw [hnp]; exact plR_len _ _ _ _
  obtain ⟨H, hHe⟩ : ∃ H, H = hhR MI ML A b f := ⟨_, rfl⟩
  have hHK : H = hH ML K (ndx (rqL MI (nI f) A b)) (fun i => (plR MI ML A f).getD i 0) := by rw [hHe, hKe]; rfl
  obtain ⟨V, hV⟩ : ∃ V, V = u2 MI 141 f 1 := ⟨_, rfl⟩
  have vb : ∀ c, c ≠ 141 → V c = MI c := fun c h => by rw [hV]; exact u2_row _ _ h
  have hrq : rqL V (nI f) A b = rqL MI (nI f) A b := rqL_cg2 (vb 128 (by decide)) (vb 135 (by decide)) (vb 136 (by decide)) _ _ _
  have hpl : plR MI ML A f = prQ (fun c => sfP V ML f c A) (ML 125) 729 := by
    unfold plR
    congr 1
    funext c
    exact (sfP_cg (vb 128 (by decide)) (vb 135 (by decide)) (vb 136 (by decide)) rfl rfl f c A).symm
  have hIV : rI (plR MI ML A) V := fun g hg => by rw [vb 140 (by decide), vb 143 (by decide), vb 144 (by decide)]; exact hI g hg
  have hPV : okA (arR V) A S := by
    have : arR V = arR MI := by funext i j; show V 128 _ = _; rw [vb 128 (by decide)]
    rw [this]; exact hP
  have hlk := c_X11_lackingNow (X := X) (n := n) (MI := V) (ML := ML) (MR := MR) (K := K) (H := H) (S := S) (b := b) (pl := plR MI ML A) hM hA hS (by rw [vb 128 (by decide)]; exact hAr) hPV hb (by rw [vb 130 (by decide)]; exact hbr) hf hIV hpl (fun g _ => plR_len _ _ _ _) (by rw [hrq]; exact hKe) (by rw [hrq]; exact hHK)
  obtain ⟨lk, hlke⟩ : ∃ lk, lk = lcO (cbO H (-1) np) K := ⟨_, rfl⟩
  rw [← hnp, ← hlke] at hlk
  have hlkK : ∀ i, lk = some i → i < K := fun i h => by rw [hlke] at h; exact List.mem_range.mp (List.mem_of_find?_eq_some h)
  have ho2 := opt2_none (q := lk) (A := K) (by omega) hlkK
  have hcq : ∀ c row, cqR H np K c row → cqF MI ML A b f c row := fun c row h => by unfold cqF; rw [← hHe, ← hnp, ← hKe]; exact h
  -- the end, whatever was found
  have hend : ∀ (zW : Mi), rF V zW → rI (plR MI ML A) zW → zW 140 f = 1 → (∀ g, zW 141 g = V 141 g) → zW 145 = V 145 → zW 146 = V 146 → (∀ g, g < 5 → V 140 g = 1 → zW 140 g = 1) → ∀ (W2 : Mi), (∀ c, c ≠ 145 → c ≠ 146 → c ≠ 147 → W2 c = zW c) → (∀ g, g < 5 → g ≠ f → W2 145 g = zW 145 g ∧ ∀ k, k < 5 → W2 146 (5 * g + k) = zW 146 (5 * g + k)) → cqR H np K (W2 145 f) (fun k => W2 146 (5 * f + k)) → rF MI W2 ∧ rI (plR MI ML A) W2 ∧ rJ (cqF MI ML A b) W2 ∧ W2 141 f = 1 ∧ kpR f MI W2 := by
    intro zW zF zI z1 z141 z145 z146 z140 W2 w1 w2 w3
    have w141 : W2 141 f = 1 := by rw [w1 141 (by decide) (by decide) (by decide), z141, hV]; exact u2_eq _ _ _ _
    refine ⟨⟨fun c h1 h2 => by rw [w1 c (by omega) (by omega) (by omega), zF.1 c h1 h2, vb c (by omega)], fun j h1 h2 => by rw [w1 124 (by decide) (by decide) (by decide), zF.2 j h1 h2, vb 124 (by decide)]⟩, fun g hg => ?_, fun g hg => ?_, w141, fun g hg e => ⟨by rw [w1 141 (by decide) (by decide) (by decide), z141, hV, u2_ne _ _ (by omega)], by rw [(w2 g hg e).1, z145, vb 145 (by decide)], fun k hk => by rw [(w2 g hg e).2 k hk, z146, vb 146 (by decide)]⟩⟩
    · rw [w1 140 (by decide) (by decide) (by decide), w1 143 (by decide) (by decide) (by decide), w1 144 (by decide) (by decide) (by decide)]
      exact zI g hg
    · rw [w1 140 (by decide) (by decide) (by decide)]
      by_cases e : g = f
      · subst e
        exact Or.inr ⟨w141, z1, hcq _ _ w3⟩
      · have e141 : W2 141 g = MI 141 g := by rw [w1 141 (by decide) (by decide) (by decide), z141, hV, u2_ne _ _ (by omega)]
        rw [e141, (w2 g hg e).1, z145, vb 145 (by decide)]
        rcases hJ g hg with z | ⟨y1, y2, y3⟩
        · exact Or.inl z
        · refine Or.inr ⟨y1, z140 g hg (by rw [vb 140 (by decide)]; exact y2), ?_⟩
          exact cqR_loc (fun k hk => by show W2 146 (5 * g + k) = MI 146 (5 * g + k); rw [(w2 g hg e).2 k hk, z146, vb 146 (by decide)]) y3
  refine Ct_of (by decide) (Nat.le_of_ble_eq_true rfl) (fun G hG => ?_)
  have hmain : lk = none → ∀ (zW : Mi), rF V zW → rI (plR MI ML A) zW → zW 140 f = 1 → rNQ V ML A b f (plR MI ML A) zW → (∀ g, zW 141 g = V 141 g) → zW 145 = V 145 → zW 146 = V 146 → (∀ g, g < 5 → V 140 g = 1 → zW 140 g = 1) → RW X G RX11 cX11_coversBest 6 (x_rm 9 0 0) n SH (u2 zW 145 f 6) ML MR 0 0 52 [(0, .ref 124), (1, .int (nI f))] [] := by
    intro hlk0 zW zF zI z1 zNQ z141 z145 z146 z140
    unfold rNQ at zNQ
    rw [hrq, ← hKe, ← hnp] at zNQ
    obtain ⟨q1, q2, q3, q4, q5, q6⟩ := zNQ
    obtain ⟨U, hU⟩ : ∃ U, U = u2 zW 145 f 6 := ⟨_, rfl⟩
    have ub : ∀ c, c ≠ 145 → U c = zW c := fun c h => by rw [hU]; exact u2_row _ _ h
    obtain ⟨BB, hBB⟩ : ∃ BB, BB = sr ML 148 (fun j => if j < np then H j else ML 148 j) := ⟨_, rfl⟩
    have bb : ∀ c, c ≠ 148 → BB c = ML c := fun c h => by rw [hBB]; exact sr_ne _ _ h
    have bh : ∀ i, i < np → BB 148 i = H i := fun i hi => by rw [hBB, sr_eq, if_pos hi]
    have hall := lcO_none (by rw [← hlke]; exact hlk0)
    have hcv : ∀ k, k < K → ∃ i, i < np ∧ hasL (BB 148 i) (nI k) = true := fun k hk => by
      have h := hall k hk
      rw [hasL_gb _ (by omega), cbO_gb H (by omega) np (by omega)] at h
      obtain ⟨i, hi, hz⟩ := h
      exact ⟨i, hi, by rw [bh i hi, hasL_gb _ (by omega)]; exact hz⟩
    have hS1 : ∀ l, (∀ j, K ≤ j → j < 64 → gb l j = false) → ¬ l = 0 → ∃ k, k < K ∧ hasL l (nI k) = true := fun l hl h0 => by
      obtain ⟨j, hj, hz⟩ := gb_ne0.mp h0
      have hjK : j < K := by
        rcases Nat.lt_or_ge j K with z | z
        · exact z
        · rw [hl j z hj] at hz; exact absurd hz (by decide)
      exact ⟨j, hjK, by rw [hasL_gb _ hj]; exact hz⟩
    have hS2 : ∀ l x, (∀ j, K ≤ j → j < 64 → gb l j = false) → ∀ j, K ≤ j → j < 64 → gb (l &&& x) j = false := fun l x hl j h1 h2 => by rw [gb_and, hl j h1 h2]; rfl
    have hSa : ∀ j, K ≤ j → j < 64 → gb (bitL K - 1) j = false := fun j h1 h2 => by rw [gb_full K (by omega) j h2]; exact decide_eq_false (by omega)
    rw [← hU]
    have hbad : cqR H np K 6 (fun k => zW 146 (5 * f + k)) ∨ True := Or.inr trivial
    -- the row copied
    have hcopy : ∀ (row : Nat → Int32) (m : Nat), m ≤ 5 → (∃ r0, cvS (BB 148) np K (bitL K - 1) 6 0 r0 = (nI m, row)) → ∀ k, k ≤ m → RW X G RX11 cX11_coversBest 6 (x_rm 9 0 0) n SH (sr (u2 (sr U 147 row) 145 f (nI m)) 146 (fun j => if 5 * f ≤ j ∧ j < 5 * f + k then row (j - 5 * f) else zW 146 j)) BB MR 0 0 127 [(5, .int (nI k)), (4, .int (nI m)), (2, .long (bitL K - 1)), (0, .ref 124), (1, .int (nI f))] [] := by
      intro row m hm hcs
      refine bwd (fun k hk ih => ?_)
      have eix : (5 : Int32) * nI f + nI k = nI (5 * f + k) := by
        have h1 := pk_mul 5 f
        have h2 := nI_add (5 * f) k
        rw [← h1] at h2
        exact h2
      have e147 : sr (u2 (sr U 147 row) 145 f (nI m)) 146 (fun j => if 5 * f ≤ j ∧ j < 5 * f + k then row (j - 5 * f) else zW 146 j) 147 = row := by rw [sr_ne _ _ (by decide), u2_row _ _ (by decide), sr_eq]
      refine r_iload 0 rfl dX11_coversBest_127 ?_
      refine r_iload 1 rfl dX11_coversBest_129 ?_
      refine r_icmpge (tgt := 158) dX11_coversBest_131 (by decide) (fun zh131 => ?_) (fun zh131 => ?_)
      · obtain rfl : m = k := by have := geL (k := m) (by omega) (by omega) zh131; omega
        exact r_vret hG dX11_coversBest_158 (by
            refine ⟨rfl, rfl, bb, hend zW zF zI z1 z141 z145 z146 z140 _ (fun c h1 h2 h3 => by rw [sr_ne _ _ h2, u2_row _ _ h1, sr_ne _ _ h3, ub c h1]) (fun g hg hne => ⟨by rw [sr_ne _ _ (by decide), u2_ne _ _ (by omega), sr_ne _ _ (by decide), hU, u2_ne _ _ (by omega)], fun k2 hk2 => by rw [sr_eq, if_neg (by omega)]⟩) ?_⟩
            have e145 : sr (u2 (sr U 147 row) 145 f (nI m)) 146 (fun j => if 5 * f ≤ j ∧ j < 5 * f + m then row (j - 5 * f) else zW 146 j) 145 f = nI m := by rw [sr_ne _ _ (by decide)]; exact u2_eq _ _ _ _
            rw [e145]
            unfold cqR
            rw [← hlke, if_pos hlk0]
            obtain ⟨r0, hr0⟩ := hcs
            refine ⟨BB 148, r0, bh, by rw [hr0], fun m2 hm2 e k2 hk2 => ?_⟩
            have em : m2 = m := ((nI_eq (by omega) (by omega)).mp e).symm
            show sr (u2 (sr U 147 row) 145 f (nI m)) 146 (fun j => if 5 * f ≤ j ∧ j < 5 * f + m then row (j - 5 * f) else zW 146 j) 146 (5 * f + k2) = _
            rw [sr_eq, if_pos (by omega), hr0, show 5 * f + k2 - 5 * f = k2 by omega])
      · have hlt : k < m := ltL (by omega) zh131
        refine r_aload_n 3 rfl dX11_coversBest_134 ?_
        refine r_getr dX11_coversBest_135 fl_X11_86 rfl (hM _ _ _ rfl) ?_
        refine r_iconst (v := 5) rfl dX11_coversBest_138 ?_
        refine r_iload_n 4 rfl dX11_coversBest_139 ?_
        refine r_imul dX11_coversBest_140 ?_
        refine r_iload 0 rfl dX11_coversBest_141 ?_
        refine r_iadd dX11_coversBest_143 ?_
        refine r_aload_n 3 rfl dX11_coversBest_144 ?_
        refine r_getr dX11_coversBest_145 fl_X11_89 rfl (hM _ _ _ rfl) ?_
        refine r_iload 0 rfl dX11_coversBest_148 ?_
        refine r_iald dX11_coversBest_150 rfl (vp_in_nI (show k < 5 by omega) (by decide)) ?_
        refine r_iast dX11_coversBest_151 rfl (by rw [eix]; exact vp_in_nI (show 5 * f + k < 25 by omega) (by decide)) ?_
        refine r_iinc (v := (nI (k + 1))) (ls2 := [(5, .int (nI (k + 1))), (4, .int (nI m)), (2, .long (bitL K - 1)), (0, .ref 124), (1, .int (nI f))]) 0 dX11_coversBest_152 rfl (x_inc k) (by decide) rfl ?_
        refine r_goto (tgt := 127) dX11_coversBest_155 (by decide) ?_
        refine r_mem ?_ rfl rfl (ih hlt)
        rw [eix, e147, nI_clamp (by omega), nI_clamp (by omega), u2_sr, sr_eq, sr_sr]
        congr 1
        funext j
        have zj : ∀ j, j = 5 * f + k → j - 5 * f = k := fun j h => by omega
        simp only [up]
        grind
    have lN : ∀ m, m ≤ 6 → ∀ row, (∃ r0, cvS (BB 148) np K (bitL K - 1) 6 0 r0 = cvS (BB 148) np K (bitL K - 1) (6 - m) m row) → RW X G RX11 cX11_coversBest 6 (x_rm 9 0 0) n SH (sr U 147 row) BB MR 0 0 94 [(4, .int (nI m)), (2, .long (bitL K - 1)), (0, .ref 124), (1, .int (nI f))] [] := by
      refine bwd (fun m hm ih row hcs => ?_)
      have e32 : U 124 32 = nI K := by rw [ub 124 (by decide)]; exact q2
      have e143 : U 143 f = nI np := by rw [ub 143 (by decide)]; exact q5
      refine r_iload 0 rfl dX11_coversBest_94 ?_
      refine r_iconst (v := 5) rfl dX11_coversBest_96 ?_
      refine r_icmpgt (tgt := 165) dX11_coversBest_97 (by decide) (fun zh97 => ?_) (fun zh97 => ?_)
      · have hm6 : m = 6 := by have := (nI_ltI (a := 5) (by decide) (by omega)).mp zh97; omega
        rw [hm6, Nat.sub_self, cvS] at hcs
        exact r_vret hG dX11_coversBest_165 (by
            refine ⟨rfl, rfl, bb, hend zW zF zI z1 z141 z145 z146 z140 _ (fun c h1 h2 h3 => by rw [sr_ne _ _ h3, ub c h1]) (fun g hg hne => ⟨by rw [sr_ne _ _ (by decide), hU, u2_ne _ _ (by omega)], fun k2 hk2 => by rw [sr_ne _ _ (by decide), ub 146 (by decide)]⟩) ?_⟩
            have e145 : sr U 147 row 145 f = 6 := by rw [sr_ne _ _ (by decide), hU]; exact u2_eq _ _ _ _
            rw [e145]
            unfold cqR
            rw [← hlke, if_pos hlk0]
            obtain ⟨r0, hr0⟩ := hcs
            refine ⟨BB 148, r0, bh, by rw [hr0], fun m2 hm2 e k2 hk2 => ?_⟩
            exact absurd ((nI_eq (a := 6) (by decide) (by omega)).mp e) (by omega))
      · have hm5 : m ≤ 5 := Nat.not_lt.mp (fun z => zh97 (nI_lt (a := 5) z (by omega)))
        rw [show 6 - m = (6 - (m + 1)) + 1 by omega, cvS] at hcs
        refine r_aload_n 2 rfl dX11_coversBest_100 ?_
        refine r_iload_n 3 rfl dX11_coversBest_101 ?_
        refine r_iconst (v := 0) rfl dX11_coversBest_102 ?_
        refine r_iload 0 rfl dX11_coversBest_103 ?_
        refine r_iconst (v := 0) rfl dX11_coversBest_105 ?_
        refine r_lload_n 1 rfl dX11_coversBest_106 ?_
        refine r_Vf [.int _, .int _, .int _, .int _, .long _] dX11_coversBest_107 lk_X11_404 mb_X11_chooses in_X11_chooses se_X11_chooses rfl (c_X11_chooses (MI := U) (ML := BB) (N := m) (Sb := fun l => ∀ j, K ≤ j → j < 64 → gb l j = false) hM hf hm5 hK e32 hn9 e143 hcv hS1 hS2 m 0 (Nat.zero_add m) 0 (bitL K - 1) row (Nat.zero_le _) hSa) rfl rfl rfl (Nat.le_of_ble_eq_true rfl) (x_fitD (by omega) (by decide)) ?_
        refine r_ifne (tgt := 116) dX11_coversBest_110 (by decide) (fun zh110 => ?_) (fun zh110 => ?_)
        · refine r_aload_n 2 rfl dX11_coversBest_116 ?_
          refine r_getr dX11_coversBest_117 fl_X11_83 rfl (hM _ _ _ rfl) ?_
          refine r_iload_n 3 rfl dX11_coversBest_120 ?_
          refine r_iload 0 rfl dX11_coversBest_121 ?_
          refine r_iast dX11_coversBest_123 rfl (vp_in_nI hf (by decide)) ?_
          refine r_iconst (v := 0) rfl dX11_coversBest_124 ?_
          refine r_istore (ls2 := [(5, .int 0), (4, .int (nI m)), (2, .long (bitL K - 1)), (0, .ref 124), (1, .int (nI f))]) dX11_coversBest_125 (by decide) rfl ?_
          have z1 : (cho (BB 148) np K m 0 0 (bitL K - 1) row).1 = true := b2n.mp zh110
          rw [if_pos z1] at hcs
          refine r_mem ?_ rfl rfl (r_sub [0, 1, 2, 3, 4] rfl (hcopy _ m hm5 hcs 0 (Nat.zero_le _)))
          rw [cf]
          have e146 : (fun j => if 5 * f ≤ j ∧ j < 5 * f + 0 then (cho (BB 148) np K m 0 0 (bitL K - 1) row).2 (j - 5 * f) else zW 146 j) = u2 (sr U 147 (cho (BB 148) np K m 0 0 (bitL K - 1) row).2) 145 f (nI m) 146 := by
            rw [u2_row _ _ (by decide), sr_ne _ _ (by decide), ub 146 (by decide)]
            funext j
            rw [if_neg (by omega)]
          rw [e146, sr_id]
        · refine r_goto (tgt := 159) dX11_coversBest_113 (by decide) ?_
          refine r_iinc (v := (nI (m + 1))) (ls2 := [(4, .int (nI (m + 1))), (2, .long (bitL K - 1)), (0, .ref 124), (1, .int (nI f))]) 0 dX11_coversBest_159 rfl (x_inc m) (by decide) rfl ?_
          refine r_goto (tgt := 94) dX11_coversBest_162 (by decide) ?_
          have z1 : ¬ (cho (BB 148) np K m 0 0 (bitL K - 1) row).1 = true := by rw [b2z.mp zh110]; decide
          rw [if_neg z1] at hcs
          exact r_sub [0, 1, 2, 3] rfl (ih (by omega) _ hcs)
    have lC : ∀ i, i ≤ np → RW X G RX11 cX11_coversBest 6 (x_rm 9 0 0) n SH U (sr ML 148 (fun j => if j < i then H j else ML 148 j)) MR 0 0 54 [(2, .int (nI i)), (0, .ref 124), (1, .int (nI f))] [] := by
      refine bwd (fun i hi ih => ?_)
      have u143 : U 143 f = nI np := by rw [ub 143 (by decide)]; exact q5
      have u32 : U 124 32 = nI K := by rw [ub 124 (by decide)]; exact q2
      have hcov : i < np → Cf X yX11_covers cX11_covers 6 (some .long) 2 [.ref 124, .int (nI f), .int (nI i)] n SH U (sr ML 148 (fun j => if j < i then H j else ML 148 j)) MR (some (.long (H i))) U (sr ML 148 (fun j => if j < i then H j else ML 148 j)) MR := fun hlt => by
        have h := c_X11_covers (X := X) (n := n) (MI := U) (ML := sr ML 148 (fun j => if j < i then H j else ML 148 j)) (MR := MR) (f := f) (i := i) (K := K) (nd := ndx (rqL MI (nI f) A b)) hM hf (by omega) q1 u32 (fun k hk => by rw [ub 139 (by decide)]; exact q3 k hk) (q6 i hlt).1 (by rw [ub 144 (by decide)]; exact (q6 i hlt).2)
        rw [sr_ne _ _ (show (125 : Nat) ≠ 148 by decide)] at h
        have e : heldL (ML 125 ((fun i => (plR MI ML A f).getD i 0) i)) (fun k => ML 125 (ndx (rqL MI (nI f) A b) k)) K = H i := by rw [hHK]; rfl
        rw [e] at h
        exact h
      refine r_iload_n 0 rfl dX11_coversBest_54 ?_
      refine r_aload_n 1 rfl dX11_coversBest_55 ?_
      refine r_getr dX11_coversBest_56 fl_X11_77 rfl (hM _ _ _ rfl) ?_
      refine r_iload_n 2 rfl dX11_coversBest_59 ?_
      refine r_iald dX11_coversBest_60 rfl (vp_in_nI hf (by decide)) ?_
      refine r_icmpge (tgt := 82) dX11_coversBest_61 (by decide) (fun zh61 => ?_) (fun zh61 => ?_)
      · rw [cf, u143] at zh61
        obtain rfl : np = i := by have := geL (k := np) (by omega) (by omega) zh61; omega
        refine r_mem rfl hBB.symm rfl ?_
        refine r_lconst (v := 1) rfl dX11_coversBest_82 ?_
        refine r_aload_n 1 rfl dX11_coversBest_83 ?_
        refine r_geti dX11_coversBest_84 fl_X11_358 rfl ?_
        refine r_lshl dX11_coversBest_87 ?_
        refine r_lconst (v := 1) rfl dX11_coversBest_88 ?_
        refine r_lsub dX11_coversBest_89 ?_
        rw [u32]
        refine r_lstore_n (ls2 := [(2, .long (bitL K - 1)), (0, .ref 124), (1, .int (nI f))]) dX11_coversBest_90 (by decide) rfl ?_
        refine r_iconst (v := 0) rfl dX11_coversBest_91 ?_
        refine r_istore (ls2 := [(4, .int 0), (2, .long (bitL K - 1)), (0, .ref 124), (1, .int (nI f))]) dX11_coversBest_92 (by decide) rfl ?_
        refine r_mem ?_ rfl rfl (r_sub [0, 1, 2, 3] rfl (lN 0 (by decide) (U 147) ⟨U 147, rfl⟩))
        rw [sr_id]
      · rw [cf, u143] at zh61
        have hlt : i < np := ltL (by omega) zh61
        refine r_aload_n 1 rfl dX11_coversBest_64 ?_
        refine r_getr dX11_coversBest_65 fl_X11_92 rfl (hM _ _ _ rfl) ?_
        refine r_iload_n 0 rfl dX11_coversBest_68 ?_
        refine r_aload_n 1 rfl dX11_coversBest_69 ?_
        refine r_iload_n 2 rfl dX11_coversBest_70 ?_
        refine r_iload_n 0 rfl dX11_coversBest_71 ?_
        refine r_Vf [.int _, .int _] dX11_coversBest_72 lk_X11_394 mb_X11_covers in_X11_covers se_X11_covers rfl (hcov hlt) rfl rfl rfl (Nat.le_of_ble_eq_true rfl) (rfl) ?_
        refine r_last dX11_coversBest_75 rfl (vp_in_nI (show i < 729 by omega) (by decide)) ?_
        refine r_iinc (v := (nI (i + 1))) (ls2 := [(2, .int (nI (i + 1))), (0, .ref 124), (1, .int (nI f))]) 0 dX11_coversBest_76 rfl (x_inc i) (by decide) rfl ?_
        refine r_goto (tgt := 54) dX11_coversBest_79 (by decide) ?_
        refine r_mem rfl ?_ rfl (ih hlt)
        rw [nI_clamp (by omega), u2_sr, sr_eq, sr_sr]
        congr 1
        funext j
        simp only [up]
        grind
    refine r_iconst (v := 0) rfl dX11_coversBest_52 ?_
    refine r_istore_n (ls2 := [(2, .int 0), (0, .ref 124), (1, .int (nI f))]) dX11_coversBest_53 (by decide) rfl ?_
    refine r_mem rfl ?_ rfl (r_sub [0, 1, 2] rfl (lC 0 (Nat.zero_le _)))
    have e : (fun j => if j < 0 then H j else ML 148 j) = ML 148 := by
      funext j
      rw [if_neg (Nat.not_lt_zero j)]
    rw [e, sr_id]
  refine r_aload_n 0 rfl dX11_coversBest_0 ?_
  refine r_getr dX11_coversBest_1 fl_X11_71 rfl (hM _ _ _ rfl) ?_
  refine r_iload_n 1 rfl dX11_coversBest_4 ?_
  refine r_zald dX11_coversBest_5 rfl (vp_in_nI hf (by decide)) ?_
  refine r_ifeq (tgt := 10) dX11_coversBest_6 (by decide) (fun zh6 => ?_) (fun zh6 => ?_)
  · refine r_aload_n 0 rfl dX11_coversBest_10 ?_
    refine r_getr dX11_coversBest_11 fl_X11_71 rfl (hM _ _ _ rfl) ?_
    refine r_iload_n 1 rfl dX11_coversBest_14 ?_
    refine r_iconst (v := 1) rfl dX11_coversBest_15 ?_
    refine r_zast dX11_coversBest_16 rfl (vp_in_nI hf (by decide)) ?_
    refine r_mem (MI2 := V) (by rw [hV, cf]; rfl) rfl rfl ?_
    refine r_aload_n 0 rfl dX11_coversBest_17 ?_
    refine r_getr dX11_coversBest_18 fl_X11_83 rfl (hM _ _ _ rfl) ?_
    refine r_iload_n 1 rfl dX11_coversBest_21 ?_
    refine r_aload_n 0 rfl dX11_coversBest_22 ?_
    refine r_iload_n 1 rfl dX11_coversBest_23 ?_
    refine r_Vg [.int _] dX11_coversBest_24 lk_X11_401 mb_X11_lackingNow in_X11_lackingNow se_X11_lackingNow rfl (hlk) rfl rfl rfl (Nat.le_of_ble_eq_true rfl) (rfl) (fun r zW zB zC hz => ?_)
    obtain ⟨rfl, rfl, rfl, zF, zI, z1, zNQ, z141, z145, z146, z140⟩ := hz
    show RW X G _ _ _ _ _ _ _ _ _ _ _ _ _ (.int (opt2 lk) :: [.int (nI f), .ref 145])
    refine r_bipush (v := (-2)) rfl dX11_coversBest_27 ?_
    refine r_icmpne (tgt := 37) dX11_coversBest_29 (by decide) (fun zh29 => ?_) (fun zh29 => ?_)
    · refine r_bipush (v := (-2)) rfl dX11_coversBest_37 ?_
      refine r_iast dX11_coversBest_39 rfl (vp_in_nI hf (by decide)) ?_
      refine r_aload_n 0 rfl dX11_coversBest_40 ?_
      refine r_getr dX11_coversBest_41 fl_X11_83 rfl (hM _ _ _ rfl) ?_
      refine r_iload_n 1 rfl dX11_coversBest_44 ?_
      refine r_iald dX11_coversBest_45 rfl (vp_in_nI hf (by decide)) ?_
      refine r_bipush (v := (-2)) rfl dX11_coversBest_46 ?_
      refine r_icmpne (tgt := 52) dX11_coversBest_48 (by decide) (fun zh48 => ?_) (fun zh48 => ?_)
      · first
          | (have y1 : lk = none := ho2.mp zh29
             rw [cf]
             exact hmain y1 zW zF zI z1 zNQ z141 z145 z146 z140)
          | (exfalso; rw [cf, u2_eq] at zh48; exact zh48 rfl)
      · exact r_vret hG dX11_coversBest_51 (by
            have y1 : ¬ lk = none := fun z => by
              first
                | exact zh29 (ho2.mpr z)
                | (rw [cf, u2_eq] at zh48; exact absurd zh48 (by decide))
            refine ⟨rfl, rfl, fun _ _ => rfl, hend zW zF zI z1 z141 z145 z146 z140 _ (fun c h1 _ _ => u2_row _ _ h1) (fun g hg hne => ⟨by rw [cf, u2_ne _ _ (by omega)], fun k2 _ => by rw [u2_row _ _ (by decide)]⟩) ?_⟩
            unfold cqR
            first
              | (rw [← hlke, if_neg y1, cf, u2_eq]; done)
              | (rw [cf, u2_eq] at zh48; exact absurd zh48 (by decide)))
    · refine r_bipush (v := 6) rfl dX11_coversBest_32 ?_
      refine r_goto (tgt := 39) dX11_coversBest_34 (by decide) ?_
      refine r_iast dX11_coversBest_39 rfl (vp_in_nI hf (by decide)) ?_
      refine r_aload_n 0 rfl dX11_coversBest_40 ?_
      refine r_getr dX11_coversBest_41 fl_X11_83 rfl (hM _ _ _ rfl) ?_
      refine r_iload_n 1 rfl dX11_coversBest_44 ?_
      refine r_iald dX11_coversBest_45 rfl (vp_in_nI hf (by decide)) ?_
      refine r_bipush (v := (-2)) rfl dX11_coversBest_46 ?_
      refine r_icmpne (tgt := 52) dX11_coversBest_48 (by decide) (fun zh48 => ?_) (fun zh48 => ?_)
      · first
          | (have y1 : lk = none := ho2.mp zh29
             rw [cf]
             exact hmain y1 zW zF zI z1 zNQ z141 z145 z146 z140)
          | (exfalso; rw [cf, u2_eq] at zh48; exact zh48 rfl)
      · exact r_vret hG dX11_coversBest_51 (by
            have y1 : ¬ lk = none := fun z => by
              first
                | exact zh29 (ho2.mpr z)
                | (rw [cf, u2_eq] at zh48; exact absurd zh48 (by decide))
            refine ⟨rfl, rfl, fun _ _ => rfl, hend zW zF zI z1 z141 z145 z146 z140 _ (fun c h1 _ _ => u2_row _ _ h1) (fun g hg hne => ⟨by rw [cf, u2_ne _ _ (by omega)], fun k2 _ => by rw [u2_row _ _ (by decide)]⟩) ?_⟩
            unfold cqR
            first
              | (rw [← hlke, if_neg y1, cf, u2_eq]; done)
              | (rw [cf, u2_eq] at zh48; exact absurd zh48 (by decide)))
  · exact r_vret hG dX11_coversBest_9 (by
        rw [cf] at zh6
        have y1 : MI 141 f = 1 := (hJ f hf).elim (fun z => absurd z zh6) (fun z => z.1)
        exact ⟨rfl, rfl, fun _ _ => rfl, rF_rf _, hI, hJ, y1, fun _ _ _ => ⟨rfl, rfl, fun _ _ => rfl⟩⟩)
end rbest

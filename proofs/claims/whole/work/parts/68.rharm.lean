/-! the reference: runBurst of a cover; harm, glitch -/
def hzR (V : Mi) (B : Nat → Nat → Int64) (f i : Nat) : Int64 := (B 125 (bcR V i).toNatClampNeg ||| B 125 (tcR V i).toNatClampNeg) &&& B 138 f
def hg1 (V : Mi) (B : Nat → Nat → Int64) (f i j : Nat) (h : Int32) : Int32 := if B 125 (gcN V j) &&& hzR V B f i = 0 then h else h ||| 1
def hg2 (V : Mi) (B : Nat → Nat → Int64) (f i j : Nat) (h : Int32) : Int32 := if flR V (nI f) i = true ∧ ctR V B (gcN V j) i = true then h ||| 4 else h
def hmG (V : Mi) (B : Nat → Nat → Int64) (f i : Nat) : Nat → Int32
  | 0 => 0
  | j + 1 => if V 128 (56 + 2 * j) = nI f then hg2 V B f i j (hg1 V B f i j (hmG V B f i j)) else hmG V B f i j
def hmN (V : Mi) (B : Nat → Nat → Int64) (f g : Nat) (L : List Int32) (h : Int32) : Nat → Int32
  | 0 => h
  | k + 1 => if (List.range g).any (lgP V B (nI f) (L.getD k 0).toNatClampNeg) = true then hmN V B f g L h k else hmN V B f g L h k ||| 2
def hmR (V : Mi) (B : Nat → Nat → Int64) (f g i : Nat) : Int32 := hmN V B f g (addAll [] (nqA V (nI f) i)) (hmG V B f i g) (addAll [] (nqA V (nI f) i)).length
theorem tcR_in (V : Mi) (i : Nat) : ∃ m, m < 729 ∧ tcR V i = nI m := numC_in _ _
def nd2 (MI : Mi) (r : Nat → Int32) (c : Int32) : Mi := u2 (sr MI 139 r) 124 32 c
theorem nd2_id {MI : Mi} : nd2 MI (MI 139) (MI 124 32) = MI := by
  unfold nd2
  rw [sr_id]
  funext b j
  simp only [u2]
  split
  · rename_i h; rw [h.1, h.2]
  · rfl
theorem nd_nil {MI : Mi} {r : Nat → Int32} {c : Int32} : u2 (nd2 MI r c) 124 32 0 = ndM MI r [] := by
  unfold ndM nd2
  rw [layL_nil]
  funext b j
  simp only [u2, sr, List.length_nil, nI_0]
  grind
theorem find_first {p : Nat → Bool} {A i : Nat} (hi : i < A) (h : p i = true) (hno : ∀ k, k < i → p k = false) : (List.range A).find? p = some i := by
  rw [List.find?_range_eq_some]
  exact ⟨h, List.mem_range.mpr hi, fun k hk => by rw [hno k hk]; rfl⟩
theorem find_none {p : Nat → Bool} {A : Nat} (hno : ∀ k, k < A → p k = false) : (List.range A).find? p = none := by
  rw [List.find?_eq_none]
  intro k hk
  rw [hno k (List.mem_range.mp hk)]
  decide
section rharm
variable {X : xG} {n : Nat} {MI : Nat → Nat → Int32} {ML : Nat → Nat → Int64} {MR : Nat → Nat → Option Nat}
set_option maxRecDepth 100000 in
theorem c_X11_runBurst_0 (hM : x_Lay MR) {A S b : Nat} (hm : rMc MI A S b) (hc : rCc MI ML A b MI) (hmu : muOK MI) {x y : Int32} : Ct X yX11_runBurst cX11_runBurst 5 (some .int) 13 0 0 [.ref 124, .int x, .int y, .int 0] n SH MI ML MR n SH (rQ MI ML MR A b (fun W a w => (rIF W x = true ∧ rIA W y = true → rTr W x = 0 → W 141 x.toNatClampNeg = 1) ∧ a = (rbC W x y).1 ∧ w = (rbC W x y).2)) := by
  obtain ⟨V, hV⟩ : ∃ V, V = th MI := ⟨_, rfl⟩
  have hmV : rMc V A S b := by rw [hV]; exact rMc_th hm
  have hcV : rCc V ML A b V := by rw [hV]; exact rCc_th hc
  have hmuV : muOK V := by rw [hV]; exact hmu
  refine Ct_of (by decide) (Nat.le_of_ble_eq_true rfl) (fun G hG => ?_)
  have j33 : ∀ zW zB t, (∀ c, c ≠ 148 → zB c = ML c) → rF V zW → rCc V ML A b zW → (rIF zW x = true ∧ rIA zW y = true → rTr zW x = 0 → zW 141 x.toNatClampNeg = 1) → t = (rbC zW x y).2 → RW X G RX11 cX11_runBurst 5 (x_rm 13 0 0) n SH zW zB MR 0 0 33 [(4, .int t), (0, .ref 124), (1, .int x), (2, .int y), (3, .int 0)] [] := by
    intro zW zB t zB1 zF zC1 z1 ht
    have hend : ∀ a w, a = (rbC zW x y).1 → w = (rbC zW x y).2 → rQ MI ML MR A b (fun W a w => (rIF W x = true ∧ rIA W y = true → rTr W x = 0 → W 141 x.toNatClampNeg = 1) ∧ a = (rbC W x y).1 ∧ w = (rbC W x y).2) (some (.int a)) (rfM zW w) zB MR := fun a w h h2 => rq_end (by rw [← hV]; exact zF) zB1 (by rw [← hV]; exact zC1) ⟨z1, h, h2⟩
    obtain ⟨hA, hS, hAr, hP, -, -⟩ := rMc_F hmV zF
    by_cases h0 : rIF zW x = true ∧ rIA zW y = true
    · by_cases h1 : rcT zW x = 0
      · obtain ⟨i, hi, rfl⟩ := rIA_ex (by omega) hAr h0.2
        obtain ⟨m, hm9, hme⟩ := bcR_in zW i
        obtain ⟨f, q, hf, rfl, hq, hqe, hcc⟩ := cc_of hA zC1 (z1 h0) h1
        have cf : (nI f).toNatClampNeg = f := nI_clamp (by omega)
        have e : rbC zW (nI f) (nI i) = (nI (rcS (ccN zW f) m q), 0) := by unfold rbC rcP; rw [if_pos h0, if_pos h1, cf, hqe, nI_clamp (show i < 2 ^ 31 by omega), hme, nI_clamp (show m < 2 ^ 31 by omega), nI_clamp (by omega)]
        have ht0 : t = 0 := by rw [ht, e]
        subst ht0
        refine r_iload 0 rfl dX11_runBurst_33 ?_
        refine r_ifle (tgt := 45) dX11_runBurst_35 (by decide) (fun zh35 => ?_) (fun zh35 => ?_)
        rotate_left
        · exact absurd zh35 (by decide)
        refine r_aload_n 1 rfl dX11_runBurst_45 ?_
        refine r_aload_n 1 rfl dX11_runBurst_46 ?_
        refine r_iload_n 2 rfl dX11_runBurst_47 ?_
        refine r_aload_n 1 rfl dX11_runBurst_48 ?_
        refine r_iload_n 3 rfl dX11_runBurst_49 ?_
        refine r_Vf [.int _] dX11_runBurst_50 lk_X11_361 mb_X11_burstCube in_X11_burstCube se_X11_burstCube rfl (c_X11_burstCube hM hA hS hP hi) rfl rfl rfl (Nat.le_of_ble_eq_true rfl) (rfl) ?_
        rw [hme]
        refine r_iload_n 4 rfl dX11_runBurst_53 ?_
        refine r_Vf [.int _, .int _, .int _] dX11_runBurst_54 lk_X11_464 mb_X11_runs in_X11_runs se_X11_runs rfl (c_X11_runs_0 hM (muOK_F zF hmuV) hf hq hqe hcc hm9) rfl rfl rfl (Nat.le_of_ble_eq_true rfl) (rfl) ?_
        refine r_Vf [.int _] dX11_runBurst_57 lk_X11_267 mb_X11_good in_X11_good se_X11_good rfl (c_X11_good) rfl rfl rfl (Nat.le_of_ble_eq_true rfl) (rfl) ?_
        exact r_iret hG dX11_runBurst_60 (hend _ _ (by rw [e]) (by rw [e]))
      · have e : rbC zW x y = (-1, rcT zW x) := by unfold rbC; rw [if_pos h0, if_neg h1]
        have ht0 : t = rcT zW x := by rw [ht, e]
        subst ht0
        refine r_iload 0 rfl dX11_runBurst_33 ?_
        refine r_ifle (tgt := 45) dX11_runBurst_35 (by decide) (fun zh35 => ?_) (fun zh35 => ?_)
        · exact absurd zh35 (Int32.not_le.mpr (rcT_p h1))
        refine r_aload_n 1 rfl dX11_runBurst_38 ?_
        refine r_iload 0 rfl dX11_runBurst_39 ?_
        refine r_Vf [.int _] dX11_runBurst_41 lk_X11_251 mb_X11_refused in_X11_refused se_X11_refused rfl (c_X11_refused) rfl rfl rfl (Nat.le_of_ble_eq_true rfl) (rfl) ?_
        exact r_iret hG dX11_runBurst_44 (hend _ _ (by rw [e]) (by rw [e]))
    · have e : rbC zW x y = (-1, 1) := by unfold rbC; rw [if_neg h0]
      have ht0 : t = 1 := by rw [ht, e]
      subst ht0
      refine r_iload 0 rfl dX11_runBurst_33 ?_
      refine r_ifle (tgt := 45) dX11_runBurst_35 (by decide) (fun zh35 => ?_) (fun zh35 => ?_)
      · exact absurd zh35 (by decide)
      refine r_aload_n 1 rfl dX11_runBurst_38 ?_
      refine r_iload 0 rfl dX11_runBurst_39 ?_
      refine r_Vf [.int _] dX11_runBurst_41 lk_X11_251 mb_X11_refused in_X11_refused se_X11_refused rfl (c_X11_refused) rfl rfl rfl (Nat.le_of_ble_eq_true rfl) (rfl) ?_
      exact r_iret hG dX11_runBurst_44 (hend _ _ (by rw [e]) (by rw [e]))
  have hk : ∀ zW, rF V zW → rIF V x = true ∧ rIA V y = true → rcT zW x = (rbC zW x y).2 := fun zW zF h0 => by
    have h0W : rIF zW x = true ∧ rIA zW y = true := by
      have e1 : rIF zW x = rIF V x := by unfold rIF; rw [zF.2 20 (by decide) (by decide)]
      have e2 : rIA zW y = rIA V y := by unfold rIA; rw [zF.2 20 (by decide) (by decide), zF.1 128 (by decide) (by decide)]
      rw [e1, e2]
      exact h0
    unfold rbC
    rw [if_pos h0W]
    by_cases h1 : rcT zW x = 0
    · rw [if_pos h1]; exact h1
    · rw [if_neg h1]
  refine r_aload_n 0 rfl dX11_runBurst_0 ?_
  refine r_iconst (v := 0) rfl dX11_runBurst_1 ?_
  refine r_puti dX11_runBurst_2 fl_X11_3 rfl rfl rfl ?_
  refine r_mem hV.symm rfl rfl ?_
  refine r_aload_n 0 rfl dX11_runBurst_5 ?_
  refine r_iload_n 1 rfl dX11_runBurst_6 ?_
  refine r_Vf [.int _] dX11_runBurst_7 lk_X11_341 mb_X11_isFunction in_X11_isFunction se_X11_isFunction rfl (c_X11_isFunction) rfl rfl rfl (Nat.le_of_ble_eq_true rfl) (rfl) ?_
  refine r_ifeq (tgt := 30) dX11_runBurst_10 (by decide) (fun zh10 => ?_) (fun zh10 => ?_)
  · refine r_iconst (v := 1) rfl dX11_runBurst_30 ?_
    refine r_istore (ls2 := [(4, .int 1), (0, .ref 124), (1, .int x), (2, .int y), (3, .int 0)]) dX11_runBurst_31 (by decide) rfl ?_
    first
      | exact r_sub [0, 1, 2, 3, 4] rfl (j33 zW zB _ zB1 zF zC1 (fun _ => z1) (hk zW zF ⟨b2n.mp zh10, b2n.mp zh18⟩))
      | (have y1 : zv31 = (rbC zW x y).2 := ze31.trans (hk zW zF ⟨b2n.mp zh10, b2n.mp zh18⟩)
         exact r_sub [0, 1, 2, 3, 4] rfl (j33 zW zB _ zB1 zF zC1 (fun _ => z1) y1))
      | (have y1 : ¬ (rIF V x = true ∧ rIA V y = true) := fun q => absurd q.1 (by rw [b2z.mp zh10]; decide)
         exact r_sub [0, 1, 2, 3, 4] rfl (j33 V ML _ (fun _ _ => rfl) (rF_rf _) hcV (fun q => absurd q y1) (by unfold rbC; rw [if_neg y1])))
      | (have y1 : ¬ (rIF V x = true ∧ rIA V y = true) := fun q => absurd q.2 (by rw [b2z.mp zh18]; decide)
         exact r_sub [0, 1, 2, 3, 4] rfl (j33 V ML _ (fun _ _ => rfl) (rF_rf _) hcV (fun q => absurd q y1) (by unfold rbC; rw [if_neg y1])))
  · refine r_aload_n 0 rfl dX11_runBurst_13 ?_
    refine r_iload_n 2 rfl dX11_runBurst_14 ?_
    refine r_Vf [.int _] dX11_runBurst_15 lk_X11_338 mb_X11_isArc in_X11_isArc se_X11_isArc rfl (c_X11_isArc hM) rfl rfl rfl (Nat.le_of_ble_eq_true rfl) (rfl) ?_
    refine r_ifeq (tgt := 30) dX11_runBurst_18 (by decide) (fun zh18 => ?_) (fun zh18 => ?_)
    · refine r_iconst (v := 1) rfl dX11_runBurst_30 ?_
      refine r_istore (ls2 := [(4, .int 1), (0, .ref 124), (1, .int x), (2, .int y), (3, .int 0)]) dX11_runBurst_31 (by decide) rfl ?_
      first
        | exact r_sub [0, 1, 2, 3, 4] rfl (j33 zW zB _ zB1 zF zC1 (fun _ => z1) (hk zW zF ⟨b2n.mp zh10, b2n.mp zh18⟩))
        | (have y1 : zv31 = (rbC zW x y).2 := ze31.trans (hk zW zF ⟨b2n.mp zh10, b2n.mp zh18⟩)
           exact r_sub [0, 1, 2, 3, 4] rfl (j33 zW zB _ zB1 zF zC1 (fun _ => z1) y1))
        | (have y1 : ¬ (rIF V x = true ∧ rIA V y = true) := fun q => absurd q.1 (by rw [b2z.mp zh10]; decide)
           exact r_sub [0, 1, 2, 3, 4] rfl (j33 V ML _ (fun _ _ => rfl) (rF_rf _) hcV (fun q => absurd q y1) (by unfold rbC; rw [if_neg y1])))
        | (have y1 : ¬ (rIF V x = true ∧ rIA V y = true) := fun q => absurd q.2 (by rw [b2z.mp zh18]; decide)
           exact r_sub [0, 1, 2, 3, 4] rfl (j33 V ML _ (fun _ _ => rfl) (rF_rf _) hcV (fun q => absurd q y1) (by unfold rbC; rw [if_neg y1])))
    · refine r_aload_n 0 rfl dX11_runBurst_21 ?_
      refine r_iload_n 1 rfl dX11_runBurst_22 ?_
      refine r_iload_n 3 rfl dX11_runBurst_23 ?_
      refine r_Vg [.int _, .int _] dX11_runBurst_24 lk_X11_460 mb_X11_refusesRun in_X11_refusesRun se_X11_refusesRun rfl (c_X11_refusesRun_0 hM hmV hcV) rfl rfl rfl (Nat.le_of_ble_eq_true rfl) (rfl) (fun r zW zB zC hz => ?_)
      obtain ⟨rfl, zB1, zF, zC1, z1, rfl⟩ := hz
      show RW X G _ _ _ _ _ _ _ _ _ _ _ _ _ [.int (rcT zW x)]
      refine r_goto (tgt := 31) dX11_runBurst_27 (by decide) ?_
      refine r_nmi (fun zv31 ze31 => ?_)
      refine r_istore (ls2 := [(4, .int zv31), (0, .ref 124), (1, .int x), (2, .int y), (3, .int 0)]) dX11_runBurst_31 (by decide) rfl ?_
      first
        | exact r_sub [0, 1, 2, 3, 4] rfl (j33 zW zB _ zB1 zF zC1 (fun _ => z1) (hk zW zF ⟨b2n.mp zh10, b2n.mp zh18⟩))
        | (have y1 : zv31 = (rbC zW x y).2 := ze31.trans (hk zW zF ⟨b2n.mp zh10, b2n.mp zh18⟩)
           exact r_sub [0, 1, 2, 3, 4] rfl (j33 zW zB _ zB1 zF zC1 (fun _ => z1) y1))
        | (have y1 : ¬ (rIF V x = true ∧ rIA V y = true) := fun q => absurd q.1 (by rw [b2z.mp zh10]; decide)
           exact r_sub [0, 1, 2, 3, 4] rfl (j33 V ML _ (fun _ _ => rfl) (rF_rf _) hcV (fun q => absurd q y1) (by unfold rbC; rw [if_neg y1])))
        | (have y1 : ¬ (rIF V x = true ∧ rIA V y = true) := fun q => absurd q.2 (by rw [b2z.mp zh18]; decide)
           exact r_sub [0, 1, 2, 3, 4] rfl (j33 V ML _ (fun _ _ => rfl) (rF_rf _) hcV (fun q => absurd q y1) (by unfold rbC; rw [if_neg y1])))
theorem gOK_nd {r : Nat → Int32} {L : List Int32} {g : Nat} (h : gOK MI g) : gOK (ndM MI r L) g := h
theorem t_harmOf (hM : x_Lay MR) {A S g i f : Nat} (hA : A ≤ 8) (hS : S ≤ 6) (hP : okA (arR MI) A S) (hg : gOK MI g) (hf : f < 5) (hi : i < A) {r : Nat → Int32} {c : Int32} : Cf X yX11_harmOf cX11_harmOf 7 (some .int) 5 [.ref 124, .int (nI f), .int (nI i)] n SH (nd2 MI r c) ML MR (some (.int (hmR MI ML f g i))) (ndM MI r (addAll [] (nqA MI (nI f) i))) ML MR := by
  have hg16 := hg.1
  have cf : (nI f).toNatClampNeg = f := nI_clamp (by omega)
  have hPn : ∀ r c, okA (arR (nd2 MI r c)) A S := fun r c => hP
  have hgn : ∀ r c, gOK (nd2 MI r c) g := fun r c => hg
  obtain ⟨mb, hmb, hmbe⟩ := bcR_in MI i
  obtain ⟨mt, hmt, hmte⟩ := tcR_in MI i
  obtain ⟨N, hN⟩ : ∃ N, N = addAll [] (nqA MI (nI f) i) := ⟨_, rfl⟩
  have hNl : N.length ≤ 4 := by
    have h1 := addAll_len (nqA MI (nI f) i) []
    have h2 := nqA_len MI (nI f) i
    rw [hN]
    simp only [List.length_nil] at h1
    omega
  have hNin : ∀ k, k < N.length → ∃ m, m < 729 ∧ N.getD k 0 = nI m := fun k hk => by
    have h1 : N.getD k 0 ∈ N := mem_getD.mpr ⟨k, hk, rfl⟩
    have h2 : N.getD k 0 ∈ addAll [] (nqA MI (nI f) i) := by rw [← hN]; exact h1
    rcases addAll_in _ _ h2 with z | z
    · cases z
    · exact nqA_in MI (nI f) i _ z
  have hz : hzR MI ML f i = (ML 125 mb ||| ML 125 mt) &&& ML 138 f := by unfold hzR; rw [hmbe, hmte, nI_clamp (by omega), nI_clamp (by omega)]
  refine Ct_of (by decide) (Nat.le_of_ble_eq_true rfl) (fun G hG => ?_)
  have l2 : ∀ k, k ≤ N.length → RW X G RX11 cX11_harmOf 7 (x_rm 5 0 0) n SH (ndM MI r N) ML MR 0 0 130 [(6, .int (nI k)), (3, .int (hmN MI ML f g N (hmG MI ML f i g) k)), (0, .ref 124), (1, .int (nI f)), (2, .int (nI i))] [] := by
    refine bwd (fun k hk ih => ?_)
    refine r_iload 0 rfl dX11_harmOf_130 ?_
    refine r_aload_n 2 rfl dX11_harmOf_132 ?_
    refine r_geti dX11_harmOf_133 fl_X11_358 rfl ?_
    rw [ndM_c]
    refine r_icmpge (tgt := 164) dX11_harmOf_136 (by decide) (fun zh136 => ?_) (fun zh136 => ?_)
    · have hke : k = N.length := by have := geL (k := N.length) (by omega) (by omega) zh136; omega
      refine r_iload_n 1 rfl dX11_harmOf_164 ?_
      exact r_iret hG dX11_harmOf_165 (by rw [hke]; unfold hmR; rw [← hN]; exact ⟨rfl, rfl, rfl, rfl⟩)
    · have hlt : k < N.length := ltL (by omega) zh136
      obtain ⟨zc, zc9, zce⟩ := hNin k hlt
      refine r_aload_n 2 rfl dX11_harmOf_139 ?_
      refine r_iload_n 3 rfl dX11_harmOf_140 ?_
      refine r_aload_n 2 rfl dX11_harmOf_141 ?_
      refine r_getr dX11_harmOf_142 fl_X11_65 rfl (hM _ _ _ rfl) ?_
      refine r_iload 0 rfl dX11_harmOf_145 ?_
      refine r_iald dX11_harmOf_147 rfl (vp_in_nI (show k < 41 by omega) (by decide)) ?_
      rw [ndM_r, nI_clamp (by omega), layL_lt hlt, zce]
      refine r_Vf [.int _, .int _] dX11_harmOf_148 lk_X11_448 mb_X11_liesInGate in_X11_liesInGate se_X11_liesInGate rfl (c_X11_liesInGate hM (gOK_nd hg) zc9) rfl rfl rfl (Nat.le_of_ble_eq_true rfl) (rfl) ?_
      refine r_ifne (tgt := 158) dX11_harmOf_151 (by decide) (fun zh151 => ?_) (fun zh151 => ?_)
      · refine r_iinc (v := (nI (k + 1))) (ls2 := [(6, .int (nI (k + 1))), (3, .int (hmN MI ML f g N (hmG MI ML f i g) k)), (0, .ref 124), (1, .int (nI f)), (2, .int (nI i))]) 0 dX11_harmOf_158 rfl (x_inc k) (by decide) rfl ?_
        refine r_goto (tgt := 130) dX11_harmOf_161 (by decide) ?_
        have zs : hmN MI ML f g N (hmG MI ML f i g) (k + 1) = if (List.range g).any (lgP MI ML (nI f) zc) = true then hmN MI ML f g N (hmG MI ML f i g) k else hmN MI ML f g N (hmG MI ML f i g) k ||| 2 := by rw [hmN, zce, nI_clamp (by omega)]
        first
          | (have y1 : (List.range g).any (lgP MI ML (nI f) zc) = true := b2n.mp zh151
             rw [if_pos y1] at zs
             rw [zs] at ih
             exact r_sub [0, 1, 2, 3, 4] rfl (ih hlt))
          | (have y1 : (List.range g).any (lgP MI ML (nI f) zc) = false := b2z.mp zh151
             have y2 : ¬ (List.range g).any (lgP MI ML (nI f) zc) = true := by rw [y1]; decide
             rw [if_neg y2] at zs
             have y3 : zv157 = hmN MI ML f g N (hmG MI ML f i g) (k + 1) := ze157.trans zs.symm
             rw [← y3] at ih
             exact r_sub [0, 1, 2, 3, 4] rfl (ih hlt))
      · refine r_iload_n 1 rfl dX11_harmOf_154 ?_
        refine r_iconst (v := 2) rfl dX11_harmOf_155 ?_
        refine r_ior dX11_harmOf_156 ?_
        refine r_nmi (fun zv157 ze157 => ?_)
        refine r_istore_n (ls2 := [(3, .int zv157), (6, .int (nI k)), (0, .ref 124), (1, .int (nI f)), (2, .int (nI i))]) dX11_harmOf_157 (by decide) rfl ?_
        refine r_iinc (v := (nI (k + 1))) (ls2 := [(6, .int (nI (k + 1))), (3, .int zv157), (0, .ref 124), (1, .int (nI f)), (2, .int (nI i))]) 1 dX11_harmOf_158 rfl (x_inc k) (by decide) rfl ?_
        refine r_goto (tgt := 130) dX11_harmOf_161 (by decide) ?_
        have zs : hmN MI ML f g N (hmG MI ML f i g) (k + 1) = if (List.range g).any (lgP MI ML (nI f) zc) = true then hmN MI ML f g N (hmG MI ML f i g) k else hmN MI ML f g N (hmG MI ML f i g) k ||| 2 := by rw [hmN, zce, nI_clamp (by omega)]
        first
          | (have y1 : (List.range g).any (lgP MI ML (nI f) zc) = true := b2n.mp zh151
             rw [if_pos y1] at zs
             rw [zs] at ih
             exact r_sub [0, 1, 2, 3, 4] rfl (ih hlt))
          | (have y1 : (List.range g).any (lgP MI ML (nI f) zc) = false := b2z.mp zh151
             have y2 : ¬ (List.range g).any (lgP MI ML (nI f) zc) = true := by rw [y1]; decide
             rw [if_neg y2] at zs
             have y3 : zv157 = hmN MI ML f g N (hmG MI ML f i g) (k + 1) := ze157.trans zs.symm
             rw [← y3] at ih
             exact r_sub [0, 1, 2, 3, 4] rfl (ih hlt))
  have l1 : ∀ j, j ≤ g → RW X G RX11 cX11_harmOf 7 (x_rm 5 0 0) n SH (nd2 MI r c) ML MR 0 0 35 [(6, .int (nI j)), (4, .long (hzR MI ML f i)), (3, .int (hmG MI ML f i j)), (0, .ref 124), (1, .int (nI f)), (2, .int (nI i))] [] := by
    refine bwd (fun j hj ih => ?_)
    have j83 : j < g → ¬ ¬ MI 128 (56 + 2 * j) = nI f → ∀ h, h = hg1 MI ML f i j (hmG MI ML f i j) → RW X G RX11 cX11_harmOf 7 (x_rm 5 0 0) n SH (nd2 MI r c) ML MR 0 0 83 [(3, .int h), (6, .int (nI j)), (4, .long (hzR MI ML f i)), (0, .ref 124), (1, .int (nI f)), (2, .int (nI i))] [] := by
      intro hlt hgt h hh
      have hgt2 : MI 128 (56 + 2 * j) = nI f := Classical.not_not.mp hgt
      have hs : hmG MI ML f i (j + 1) = hg2 MI ML f i j h := by rw [hmG, if_pos hgt2, hh]
      refine r_aload_n 3 rfl dX11_harmOf_83 ?_
      refine r_iload_n 4 rfl dX11_harmOf_84 ?_
      refine r_iload_n 5 rfl dX11_harmOf_85 ?_
      refine r_Vf [.int _, .int _] dX11_harmOf_86 lk_X11_376 mb_X11_falling in_X11_falling se_X11_falling rfl (c_X11_falling hM hA hS (hPn _ _) hi) rfl rfl rfl (Nat.le_of_ble_eq_true rfl) (rfl) ?_
      refine r_ifeq (tgt := 110) dX11_harmOf_89 (by decide) (fun zh89 => ?_) (fun zh89 => ?_)
      · refine r_iinc (v := (nI (j + 1))) (ls2 := [(6, .int (nI (j + 1))), (3, .int h), (4, .long (hzR MI ML f i)), (0, .ref 124), (1, .int (nI f)), (2, .int (nI i))]) 1 dX11_harmOf_110 rfl (x_inc j) (by decide) rfl ?_
        refine r_goto (tgt := 35) dX11_harmOf_113 (by decide) ?_
        unfold hg2 at hs
        first
          | (have y1 : flR MI (nI f) i = true := b2n.mp zh89
             have y2 : ctR MI ML (gcN MI j) i = true := b2n.mp zh103
             rw [if_pos ⟨y1, y2⟩] at hs
             have y3 : zv109 = hmG MI ML f i (j + 1) := ze109.trans hs.symm
             rw [← y3] at ih
             exact r_sub [0, 2, 1, 3, 4, 5] rfl (ih hlt))
          | (have y1 : ctR MI ML (gcN MI j) i = false := b2z.mp zh103
             have y2 : ¬ (flR MI (nI f) i = true ∧ ctR MI ML (gcN MI j) i = true) := fun q => absurd q.2 (by rw [y1]; decide)
             rw [if_neg y2] at hs
             rw [hs] at ih
             exact r_sub [0, 2, 1, 3, 4, 5] rfl (ih hlt))
          | (have y1 : flR MI (nI f) i = false := b2z.mp zh89
             have y2 : ¬ (flR MI (nI f) i = true ∧ ctR MI ML (gcN MI j) i = true) := fun q => absurd q.1 (by rw [y1]; decide)
             rw [if_neg y2] at hs
             rw [hs] at ih
             exact r_sub [0, 2, 1, 3, 4, 5] rfl (ih hlt))
      · refine r_aload_n 3 rfl dX11_harmOf_92 ?_
        refine r_aload_n 3 rfl dX11_harmOf_93 ?_
        refine r_iload 1 rfl dX11_harmOf_94 ?_
        refine r_Vf [.int _] dX11_harmOf_96 lk_X11_445 mb_X11_gateCube in_X11_gateCube se_X11_gateCube rfl (c_X11_gateCube hM (hgn _ _) hlt) rfl rfl rfl (Nat.le_of_ble_eq_true rfl) (rfl) ?_
        refine r_iload_n 5 rfl dX11_harmOf_99 ?_
        refine r_Vf [.int _, .int _] dX11_harmOf_100 lk_X11_379 mb_X11_cuts in_X11_cuts se_X11_cuts rfl (c_X11_cuts hM hA hS (hPn _ _) hi (hg.2.2 j hlt).2) rfl rfl rfl (Nat.le_of_ble_eq_true rfl) (rfl) ?_
        refine r_ifeq (tgt := 110) dX11_harmOf_103 (by decide) (fun zh103 => ?_) (fun zh103 => ?_)
        · refine r_iinc (v := (nI (j + 1))) (ls2 := [(6, .int (nI (j + 1))), (3, .int h), (4, .long (hzR MI ML f i)), (0, .ref 124), (1, .int (nI f)), (2, .int (nI i))]) 1 dX11_harmOf_110 rfl (x_inc j) (by decide) rfl ?_
          refine r_goto (tgt := 35) dX11_harmOf_113 (by decide) ?_
          unfold hg2 at hs
          first
            | (have y1 : flR MI (nI f) i = true := b2n.mp zh89
               have y2 : ctR MI ML (gcN MI j) i = true := b2n.mp zh103
               rw [if_pos ⟨y1, y2⟩] at hs
               have y3 : zv109 = hmG MI ML f i (j + 1) := ze109.trans hs.symm
               rw [← y3] at ih
               exact r_sub [0, 2, 1, 3, 4, 5] rfl (ih hlt))
            | (have y1 : ctR MI ML (gcN MI j) i = false := b2z.mp zh103
               have y2 : ¬ (flR MI (nI f) i = true ∧ ctR MI ML (gcN MI j) i = true) := fun q => absurd q.2 (by rw [y1]; decide)
               rw [if_neg y2] at hs
               rw [hs] at ih
               exact r_sub [0, 2, 1, 3, 4, 5] rfl (ih hlt))
            | (have y1 : flR MI (nI f) i = false := b2z.mp zh89
               have y2 : ¬ (flR MI (nI f) i = true ∧ ctR MI ML (gcN MI j) i = true) := fun q => absurd q.1 (by rw [y1]; decide)
               rw [if_neg y2] at hs
               rw [hs] at ih
               exact r_sub [0, 2, 1, 3, 4, 5] rfl (ih hlt))
        · refine r_iload_n 0 rfl dX11_harmOf_106 ?_
          refine r_iconst (v := 4) rfl dX11_harmOf_107 ?_
          refine r_ior dX11_harmOf_108 ?_
          refine r_nmi (fun zv109 ze109 => ?_)
          refine r_istore_n (ls2 := [(3, .int zv109), (6, .int (nI j)), (4, .long (hzR MI ML f i)), (0, .ref 124), (1, .int (nI f)), (2, .int (nI i))]) dX11_harmOf_109 (by decide) rfl ?_
          refine r_iinc (v := (nI (j + 1))) (ls2 := [(6, .int (nI (j + 1))), (3, .int zv109), (4, .long (hzR MI ML f i)), (0, .ref 124), (1, .int (nI f)), (2, .int (nI i))]) 1 dX11_harmOf_110 rfl (x_inc j) (by decide) rfl ?_
          refine r_goto (tgt := 35) dX11_harmOf_113 (by decide) ?_
          unfold hg2 at hs
          first
            | (have y1 : flR MI (nI f) i = true := b2n.mp zh89
               have y2 : ctR MI ML (gcN MI j) i = true := b2n.mp zh103
               rw [if_pos ⟨y1, y2⟩] at hs
               have y3 : zv109 = hmG MI ML f i (j + 1) := ze109.trans hs.symm
               rw [← y3] at ih
               exact r_sub [0, 2, 1, 3, 4, 5] rfl (ih hlt))
            | (have y1 : ctR MI ML (gcN MI j) i = false := b2z.mp zh103
               have y2 : ¬ (flR MI (nI f) i = true ∧ ctR MI ML (gcN MI j) i = true) := fun q => absurd q.2 (by rw [y1]; decide)
               rw [if_neg y2] at hs
               rw [hs] at ih
               exact r_sub [0, 2, 1, 3, 4, 5] rfl (ih hlt))
            | (have y1 : flR MI (nI f) i = false := b2z.mp zh89
               have y2 : ¬ (flR MI (nI f) i = true ∧ ctR MI ML (gcN MI j) i = true) := fun q => absurd q.1 (by rw [y1]; decide)
               rw [if_neg y2] at hs
               rw [hs] at ih
               exact r_sub [0, 2, 1, 3, 4, 5] rfl (ih hlt))
    refine r_iload 0 rfl dX11_harmOf_35 ?_
    refine r_aload_n 3 rfl dX11_harmOf_37 ?_
    refine r_getr dX11_harmOf_38 fl_X11_31 rfl (hM _ _ _ rfl) ?_
    refine r_bipush (v := 55) rfl dX11_harmOf_41 ?_
    refine r_iald dX11_harmOf_43 rfl (vpk (k := 55) (by decide) (by decide) rfl) ?_
    have z55 : nd2 MI r c 128 (55 : Int32).toNatClampNeg = nI g := hg.2.1
    rw [z55]
    refine r_icmpge (tgt := 116) dX11_harmOf_44 (by decide) (fun zh44 => ?_) (fun zh44 => ?_)
    · have hje : j = g := by have := geL (k := g) (by omega) (by omega) zh44; omega
      refine r_aload_n 3 rfl dX11_harmOf_116 ?_
      refine r_iconst (v := 0) rfl dX11_harmOf_117 ?_
      refine r_puti dX11_harmOf_118 fl_X11_358 rfl rfl rfl ?_
      refine r_mem nd_nil rfl rfl ?_
      refine r_aload_n 3 rfl dX11_harmOf_121 ?_
      refine r_iload_n 4 rfl dX11_harmOf_122 ?_
      refine r_iload_n 5 rfl dX11_harmOf_123 ?_
      refine r_Vn [.int _, .int _] dX11_harmOf_124 lk_X11_370 mb_X11_needsByArc in_X11_needsByArc se_X11_needsByArc rfl (t_needsByArc (L := []) hM hA hS hP hi (by decide)) rfl rfl rfl (Nat.le_of_ble_eq_true rfl) (rfl) ?_
      refine r_iconst (v := 0) rfl dX11_harmOf_127 ?_
      refine r_istore (ls2 := [(6, .int 0), (4, .long (hzR MI ML f i)), (3, .int (hmG MI ML f i j)), (0, .ref 124), (1, .int (nI f)), (2, .int (nI i))]) dX11_harmOf_128 (by decide) rfl ?_
      subst hje
      refine r_mem ?_ rfl rfl (r_sub [0, 2, 3, 4, 5] rfl (l2 0 (Nat.zero_le _)))
      rw [hN]
    · have hlt : j < g := ltL (by omega) zh44
      have zc9 : gcN (nd2 MI r c) j < 729 := (hg.2.2 j hlt).2
      refine r_aload_n 3 rfl dX11_harmOf_47 ?_
      refine r_iload_n 4 rfl dX11_harmOf_48 ?_
      refine r_iload 0 rfl dX11_harmOf_49 ?_
      refine r_Vf [.int _, .int _] dX11_harmOf_51 lk_X11_442 mb_X11_isGateOf in_X11_isGateOf se_X11_isGateOf rfl (c_X11_isGateOf hM (show j < 16 by omega)) rfl rfl rfl (Nat.le_of_ble_eq_true rfl) (rfl) ?_
      refine r_ifne (tgt := 60) dX11_harmOf_54 (by decide) (fun zh54 => ?_) (fun zh54 => ?_)
      · refine r_aload_n 3 rfl dX11_harmOf_60 ?_
        refine r_getr dX11_harmOf_61 fl_X11_19 rfl (hM _ _ _ rfl) ?_
        refine r_aload_n 3 rfl dX11_harmOf_64 ?_
        refine r_iload 0 rfl dX11_harmOf_65 ?_
        refine r_Vf [.int _] dX11_harmOf_67 lk_X11_445 mb_X11_gateCube in_X11_gateCube se_X11_gateCube rfl (c_X11_gateCube hM (hgn _ _) hlt) rfl rfl rfl (Nat.le_of_ble_eq_true rfl) (rfl) ?_
        refine r_lald dX11_harmOf_70 rfl (vp_in_nI zc9 (by decide)) ?_
        rw [nI_clamp (show gcN (nd2 MI r c) j < 2 ^ 31 by omega)]
        refine r_lload 1 rfl dX11_harmOf_71 ?_
        refine r_land dX11_harmOf_73 ?_
        refine r_lconst (v := 0) rfl dX11_harmOf_74 ?_
        refine r_lcmp dX11_harmOf_75 ?_
        refine r_ifeq (tgt := 83) dX11_harmOf_76 (by decide) (fun zh76 => ?_) (fun zh76 => ?_)
        · have y0 : ¬ ¬ MI 128 (56 + 2 * j) = nI f := Classical.not_not.mpr (of_decide_eq_true (b2n.mp zh54))
          first
            | (have y1 : ML 125 (gcN MI j) &&& hzR MI ML f i = 0 := lcmp_eq.mp zh76
               exact r_sub [2, 0, 1, 3, 4, 5] rfl (j83 hlt y0 _ (by unfold hg1; rw [if_pos y1])))
            | (have y1 : ¬ ML 125 (gcN MI j) &&& hzR MI ML f i = 0 := fun q => zh76 (lcmp_eq.mpr q)
               have y3 : zv82 = hg1 MI ML f i j (hmG MI ML f i j) := ze82.trans (by unfold hg1; rw [if_neg y1])
               exact r_sub [2, 0, 1, 3, 4, 5] rfl (j83 hlt y0 _ y3))
        · refine r_iload_n 2 rfl dX11_harmOf_79 ?_
          refine r_iconst (v := 1) rfl dX11_harmOf_80 ?_
          refine r_ior dX11_harmOf_81 ?_
          refine r_nmi (fun zv82 ze82 => ?_)
          refine r_istore_n (ls2 := [(3, .int zv82), (6, .int (nI j)), (4, .long (hzR MI ML f i)), (0, .ref 124), (1, .int (nI f)), (2, .int (nI i))]) dX11_harmOf_82 (by decide) rfl ?_
          have y0 : ¬ ¬ MI 128 (56 + 2 * j) = nI f := Classical.not_not.mpr (of_decide_eq_true (b2n.mp zh54))
          first
            | (have y1 : ML 125 (gcN MI j) &&& hzR MI ML f i = 0 := lcmp_eq.mp zh76
               exact r_sub [0, 1, 2, 3, 4, 5] rfl (j83 hlt y0 _ (by unfold hg1; rw [if_pos y1])))
            | (have y1 : ¬ ML 125 (gcN MI j) &&& hzR MI ML f i = 0 := fun q => zh76 (lcmp_eq.mpr q)
               have y3 : zv82 = hg1 MI ML f i j (hmG MI ML f i j) := ze82.trans (by unfold hg1; rw [if_neg y1])
               exact r_sub [0, 1, 2, 3, 4, 5] rfl (j83 hlt y0 _ y3))
      · refine r_goto (tgt := 110) dX11_harmOf_57 (by decide) ?_
        refine r_iinc (v := (nI (j + 1))) (ls2 := [(6, .int (nI (j + 1))), (4, .long (hzR MI ML f i)), (3, .int (hmG MI ML f i j)), (0, .ref 124), (1, .int (nI f)), (2, .int (nI i))]) 0 dX11_harmOf_110 rfl (x_inc j) (by decide) rfl ?_
        refine r_goto (tgt := 35) dX11_harmOf_113 (by decide) ?_
        have y1 : ¬ MI 128 (56 + 2 * j) = nI f := of_decide_eq_false (b2z.mp zh54)
        have y2 : hmG MI ML f i (j + 1) = hmG MI ML f i j := by rw [hmG, if_neg y1]
        rw [y2] at ih
        exact r_sub [0, 1, 2, 3, 4, 5] rfl (ih hlt)
  refine r_iconst (v := 0) rfl dX11_harmOf_0 ?_
  refine r_istore_n (ls2 := [(3, .int 0), (0, .ref 124), (1, .int (nI f)), (2, .int (nI i))]) dX11_harmOf_1 (by decide) rfl ?_
  refine r_aload_n 1 rfl dX11_harmOf_2 ?_
  refine r_getr dX11_harmOf_3 fl_X11_19 rfl (hM _ _ _ rfl) ?_
  refine r_aload_n 1 rfl dX11_harmOf_6 ?_
  refine r_iload_n 3 rfl dX11_harmOf_7 ?_
  refine r_Vf [.int _] dX11_harmOf_8 lk_X11_361 mb_X11_burstCube in_X11_burstCube se_X11_burstCube rfl (c_X11_burstCube hM hA hS (hPn _ _) hi) rfl rfl rfl (Nat.le_of_ble_eq_true rfl) (rfl) ?_
  rw [show bcR (nd2 MI r c) i = nI mb from hmbe]
  refine r_lald dX11_harmOf_11 rfl (vp_in_nI hmb (by decide)) ?_
  refine r_aload_n 1 rfl dX11_harmOf_12 ?_
  refine r_getr dX11_harmOf_13 fl_X11_19 rfl (hM _ _ _ rfl) ?_
  refine r_aload_n 1 rfl dX11_harmOf_16 ?_
  refine r_iload_n 3 rfl dX11_harmOf_17 ?_
  refine r_Vf [.int _] dX11_harmOf_18 lk_X11_367 mb_X11_turnCube in_X11_turnCube se_X11_turnCube rfl (c_X11_turnCube hM hA hS (hPn _ _) hi) rfl rfl rfl (Nat.le_of_ble_eq_true rfl) (rfl) ?_
  rw [show tcR (nd2 MI r c) i = nI mt from hmte]
  refine r_lald dX11_harmOf_21 rfl (vp_in_nI hmt (by decide)) ?_
  refine r_lor dX11_harmOf_22 ?_
  refine r_aload_n 1 rfl dX11_harmOf_23 ?_
  refine r_getr dX11_harmOf_24 fl_X11_62 rfl (hM _ _ _ rfl) ?_
  refine r_iload_n 2 rfl dX11_harmOf_27 ?_
  refine r_lald dX11_harmOf_28 rfl (vp_in_nI hf (by decide)) ?_
  refine r_land dX11_harmOf_29 ?_
  rw [nI_clamp (show mb < 2 ^ 31 by omega), nI_clamp (show mt < 2 ^ 31 by omega), cf, ← hz]
  refine r_lstore (ls2 := [(4, .long (hzR MI ML f i)), (3, .int 0), (0, .ref 124), (1, .int (nI f)), (2, .int (nI i))]) dX11_harmOf_30 (by decide) rfl ?_
  refine r_iconst (v := 0) rfl dX11_harmOf_32 ?_
  refine r_istore (ls2 := [(6, .int 0), (4, .long (hzR MI ML f i)), (3, .int 0), (0, .ref 124), (1, .int (nI f)), (2, .int (nI i))]) dX11_harmOf_33 (by decide) rfl ?_
  exact r_sub [0, 1, 2, 3, 4, 5] rfl (l1 0 (Nat.zero_le _))
def rhA (V : Mi) (B : Nat → Nat → Int64) (g : Nat) (x y : Int32) : Int32 × Int32 := if rIF V x = true ∧ rIA V y = true then (if rTr V x = 0 then (hmR V B x.toNatClampNeg g y.toNatClampNeg, 0) else (-1, rTr V x)) else (-1, 1)
set_option maxRecDepth 100000 in
theorem c_X11_harm (hM : x_Lay MR) {A S b g : Nat} (hm : rMc MI A S b) (hc : rCc MI ML A b MI) (hg : gOK MI g) {x y : Int32} : Ct X yX11_harm cX11_harm 4 (some .int) 6 0 0 [.ref 124, .int x, .int y] n SH MI ML MR n SH (rQ MI ML MR A b (fun _ a w => a = (rhA (th MI) ML g x y).1 ∧ w = (rhA (th MI) ML g x y).2)) := by
  obtain ⟨V, hV⟩ : ∃ V, V = th MI := ⟨_, rfl⟩
  have hmV : rMc V A S b := by rw [hV]; exact rMc_th hm
  have hcV : rCc V ML A b V := by rw [hV]; exact rCc_th hc
  have hgV : gOK V g := by rw [hV]; exact hg
  rw [← hV]
  obtain ⟨hA, hS, hAr, hP, -, -⟩ := hmV
  refine Ct_of (by decide) (Nat.le_of_ble_eq_true rfl) (fun G hG => ?_)
  have hend : ∀ W a w, rF V W → rCc V ML A b W → (a, w) = rhA V ML g x y → rQ MI ML MR A b (fun _ a w => a = (rhA V ML g x y).1 ∧ w = (rhA V ML g x y).2) (some (.int a)) (rfM W w) ML MR := fun W a w h1 h2 h3 => rq_end (by rw [← hV]; exact h1) (fun _ _ => rfl) (by rw [← hV]; exact h2) (by rw [← h3]; exact ⟨rfl, rfl⟩)
  have j31 : ∀ t, t = (rhA V ML g x y).2 → RW X G RX11 cX11_harm 4 (x_rm 6 0 0) n SH V ML MR 0 0 31 [(3, .int t), (0, .ref 124), (1, .int x), (2, .int y)] [] := by
    intro t ht
    by_cases h0 : rIF V x = true ∧ rIA V y = true
    · by_cases h1 : rTr V x = 0
      · obtain ⟨f, hf, rfl⟩ := rTr_f h1
        obtain ⟨i, hi, rfl⟩ := rIA_ex (by omega) hAr h0.2
        have e : rhA V ML g (nI f) (nI i) = (hmR V ML f g i, 0) := by unfold rhA; rw [if_pos h0, if_pos h1, nI_clamp (by omega), nI_clamp (by omega)]
        have ht0 : t = 0 := by rw [ht, e]
        subst ht0
        have hh := t_harmOf (X := X) (n := n) (MI := V) (ML := ML) (MR := MR) (r := V 139) (c := V 124 32) hM hA hS hP hgV hf hi
        rw [nd2_id] at hh
        refine r_iload_n 0 rfl dX11_harm_31 ?_
        refine r_ifle (tgt := 41) dX11_harm_32 (by decide) (fun zh32 => ?_) (fun zh32 => ?_)
        rotate_left
        · exact absurd zh32 (by decide)
        refine r_aload_n 1 rfl dX11_harm_41 ?_
        refine r_aload_n 1 rfl dX11_harm_42 ?_
        refine r_iload_n 2 rfl dX11_harm_43 ?_
        refine r_iload_n 3 rfl dX11_harm_44 ?_
        refine r_Vf [.int _, .int _] dX11_harm_45 lk_X11_451 mb_X11_harmOf in_X11_harmOf se_X11_harmOf rfl (hh) rfl rfl rfl (Nat.le_of_ble_eq_true rfl) (rfl) ?_
        refine r_Vf [.int _] dX11_harm_48 lk_X11_267 mb_X11_good in_X11_good se_X11_good rfl (c_X11_good) rfl rfl rfl (Nat.le_of_ble_eq_true rfl) (rfl) ?_
        exact r_iret hG dX11_harm_51 (hend _ _ _ ndM_F (rCc_nd hcV) e.symm)
      · have hp : 0 < rTr V x := rTr_0.resolve_left h1
        have e : rhA V ML g x y = (-1, rTr V x) := by unfold rhA; rw [if_pos h0, if_neg h1]
        have ht0 : t = rTr V x := by rw [ht, e]
        subst ht0
        refine r_iload_n 0 rfl dX11_harm_31 ?_
        refine r_ifle (tgt := 41) dX11_harm_32 (by decide) (fun zh32 => ?_) (fun zh32 => ?_)
        · exact absurd zh32 (Int32.not_le.mpr hp)
        refine r_aload_n 1 rfl dX11_harm_35 ?_
        refine r_iload_n 0 rfl dX11_harm_36 ?_
        refine r_Vf [.int _] dX11_harm_37 lk_X11_251 mb_X11_refused in_X11_refused se_X11_refused rfl (c_X11_refused) rfl rfl rfl (Nat.le_of_ble_eq_true rfl) (rfl) ?_
        exact r_iret hG dX11_harm_40 (hend _ _ _ (rF_rf _) hcV e.symm)
    · have e : rhA V ML g x y = (-1, 1) := by unfold rhA; rw [if_neg h0]
      have ht0 : t = 1 := by rw [ht, e]
      subst ht0
      refine r_iload_n 0 rfl dX11_harm_31 ?_
      refine r_ifle (tgt := 41) dX11_harm_32 (by decide) (fun zh32 => ?_) (fun zh32 => ?_)
      · exact absurd zh32 (by decide)
      refine r_aload_n 1 rfl dX11_harm_35 ?_
      refine r_iload_n 0 rfl dX11_harm_36 ?_
      refine r_Vf [.int _] dX11_harm_37 lk_X11_251 mb_X11_refused in_X11_refused se_X11_refused rfl (c_X11_refused) rfl rfl rfl (Nat.le_of_ble_eq_true rfl) (rfl) ?_
      exact r_iret hG dX11_harm_40 (hend _ _ _ (rF_rf _) hcV e.symm)
  have hk : rIF V x = true ∧ rIA V y = true → rTr V x = (rhA V ML g x y).2 := fun h0 => by
    unfold rhA
    rw [if_pos h0]
    by_cases h1 : rTr V x = 0
    · rw [if_pos h1]; exact h1
    · rw [if_neg h1]
  refine r_aload_n 0 rfl dX11_harm_0 ?_
  refine r_iconst (v := 0) rfl dX11_harm_1 ?_
  refine r_puti dX11_harm_2 fl_X11_3 rfl rfl rfl ?_
  refine r_mem hV.symm rfl rfl ?_
  refine r_aload_n 0 rfl dX11_harm_5 ?_
  refine r_iload_n 1 rfl dX11_harm_6 ?_
  refine r_Vf [.int _] dX11_harm_7 lk_X11_341 mb_X11_isFunction in_X11_isFunction se_X11_isFunction rfl (c_X11_isFunction) rfl rfl rfl (Nat.le_of_ble_eq_true rfl) (rfl) ?_
  refine r_ifeq (tgt := 29) dX11_harm_10 (by decide) (fun zh10 => ?_) (fun zh10 => ?_)
  · refine r_iconst (v := 1) rfl dX11_harm_29 ?_
    refine r_istore_n (ls2 := [(3, .int 1), (0, .ref 124), (1, .int x), (2, .int y)]) dX11_harm_30 (by decide) rfl ?_
    first
      | exact r_sub [0, 1, 2, 3] rfl (j31 _ (hk ⟨b2n.mp zh10, b2n.mp zh18⟩))
      | (have y1 : zv30 = (rhA V ML g x y).2 := ze30.trans (hk ⟨b2n.mp zh10, b2n.mp zh18⟩)
         exact r_sub [0, 1, 2, 3] rfl (j31 _ y1))
      | (have y1 : ¬ (rIF V x = true ∧ rIA V y = true) := fun q => absurd q.1 (by rw [b2z.mp zh10]; decide)
         exact r_sub [0, 1, 2, 3] rfl (j31 _ (by unfold rhA; rw [if_neg y1])))
      | (have y1 : ¬ (rIF V x = true ∧ rIA V y = true) := fun q => absurd q.2 (by rw [b2z.mp zh18]; decide)
         exact r_sub [0, 1, 2, 3] rfl (j31 _ (by unfold rhA; rw [if_neg y1])))
  · refine r_aload_n 0 rfl dX11_harm_13 ?_
    refine r_iload_n 2 rfl dX11_harm_14 ?_
    refine r_Vf [.int _] dX11_harm_15 lk_X11_338 mb_X11_isArc in_X11_isArc se_X11_isArc rfl (c_X11_isArc hM) rfl rfl rfl (Nat.le_of_ble_eq_true rfl) (rfl) ?_
    refine r_ifeq (tgt := 29) dX11_harm_18 (by decide) (fun zh18 => ?_) (fun zh18 => ?_)
    · refine r_iconst (v := 1) rfl dX11_harm_29 ?_
      refine r_istore_n (ls2 := [(3, .int 1), (0, .ref 124), (1, .int x), (2, .int y)]) dX11_harm_30 (by decide) rfl ?_
      first
        | exact r_sub [0, 1, 2, 3] rfl (j31 _ (hk ⟨b2n.mp zh10, b2n.mp zh18⟩))
        | (have y1 : zv30 = (rhA V ML g x y).2 := ze30.trans (hk ⟨b2n.mp zh10, b2n.mp zh18⟩)
           exact r_sub [0, 1, 2, 3] rfl (j31 _ y1))
        | (have y1 : ¬ (rIF V x = true ∧ rIA V y = true) := fun q => absurd q.1 (by rw [b2z.mp zh10]; decide)
           exact r_sub [0, 1, 2, 3] rfl (j31 _ (by unfold rhA; rw [if_neg y1])))
        | (have y1 : ¬ (rIF V x = true ∧ rIA V y = true) := fun q => absurd q.2 (by rw [b2z.mp zh18]; decide)
           exact r_sub [0, 1, 2, 3] rfl (j31 _ (by unfold rhA; rw [if_neg y1])))
    · refine r_aload_n 0 rfl dX11_harm_21 ?_
      refine r_iload_n 1 rfl dX11_harm_22 ?_
      refine r_Vf [.int _] dX11_harm_23 lk_X11_344 mb_X11_refuses in_X11_refuses se_X11_refuses rfl (c_X11_refuses) rfl rfl rfl (Nat.le_of_ble_eq_true rfl) (rfl) ?_
      refine r_goto (tgt := 30) dX11_harm_26 (by decide) ?_
      refine r_nmi (fun zv30 ze30 => ?_)
      refine r_istore_n (ls2 := [(3, .int zv30), (0, .ref 124), (1, .int x), (2, .int y)]) dX11_harm_30 (by decide) rfl ?_
      first
        | exact r_sub [0, 1, 2, 3] rfl (j31 _ (hk ⟨b2n.mp zh10, b2n.mp zh18⟩))
        | (have y1 : zv30 = (rhA V ML g x y).2 := ze30.trans (hk ⟨b2n.mp zh10, b2n.mp zh18⟩)
           exact r_sub [0, 1, 2, 3] rfl (j31 _ y1))
        | (have y1 : ¬ (rIF V x = true ∧ rIA V y = true) := fun q => absurd q.1 (by rw [b2z.mp zh10]; decide)
           exact r_sub [0, 1, 2, 3] rfl (j31 _ (by unfold rhA; rw [if_neg y1])))
        | (have y1 : ¬ (rIF V x = true ∧ rIA V y = true) := fun q => absurd q.2 (by rw [b2z.mp zh18]; decide)
           exact r_sub [0, 1, 2, 3] rfl (j31 _ (by unfold rhA; rw [if_neg y1])))
/-- the first arc that does harm -/
def glR (V : Mi) (B : Nat → Nat → Int64) (f g A : Nat) : Int32 := opt2 ((List.range A).find? (fun i => decide (0 < hmR V B f g i)))
set_option maxRecDepth 100000 in
theorem c_X11_glitch (hM : x_Lay MR) {A S b g : Nat} (hm : rMc MI A S b) (hc : rCc MI ML A b MI) (hg : gOK MI g) {x : Int32} : Ct X yX11_glitch cX11_glitch 4 (some .int) 6 0 0 [.ref 124, .int x] n SH MI ML MR n SH (rQ MI ML MR A b (fun _ a w => if rTr (th MI) x = 0 then a = glR (th MI) ML x.toNatClampNeg g A ∧ w = 0 else a = -1 ∧ w = rTr (th MI) x)) := by
  obtain ⟨V, hV⟩ : ∃ V, V = th MI := ⟨_, rfl⟩
  have hmV : rMc V A S b := by rw [hV]; exact rMc_th hm
  have hcV : rCc V ML A b V := by rw [hV]; exact rCc_th hc
  have hgV : gOK V g := by rw [hV]; exact hg
  rw [← hV]
  obtain ⟨hA, hS, hAr, hP, -, -⟩ := hmV
  refine Ct_of (by decide) (Nat.le_of_ble_eq_true rfl) (fun G hG => ?_)
  by_cases h1 : rTr V x = 0
  · obtain ⟨f, hf, rfl⟩ := rTr_f h1
    have cf : (nI f).toNatClampNeg = f := nI_clamp (by omega)
    have hend : ∀ W a, rF V W → rCc V ML A b W → a = glR V ML f g A → rQ MI ML MR A b (fun _ a w => if rTr V (nI f) = 0 then a = glR V ML (nI f).toNatClampNeg g A ∧ w = 0 else a = -1 ∧ w = rTr V (nI f)) (some (.int a)) (rfM W 0) ML MR := fun W a h1' h2 h3 => rq_end (by rw [← hV]; exact h1') (fun _ _ => rfl) (by rw [← hV]; exact h2) (by rw [if_pos h1, cf]; exact ⟨h3, rfl⟩)
    have loop : ∀ i, i ≤ A → (∀ k, k < i → ¬ 0 < hmR V ML f g k) → ∀ r c, RW X G RX11 cX11_glitch 4 (x_rm 6 0 0) n SH (nd2 V r c) ML MR 0 0 23 [(3, .int (nI i)), (2, .int (rTr V (nI f))), (0, .ref 124), (1, .int (nI f))] [] := by
      refine bwd (fun i hi ih hk r c => ?_)
      have hnF : rF V (nd2 V r c) := ⟨fun b h1 h2 => by unfold nd2; rw [u2_row _ _ h1, sr_ne _ _ (by omega)], fun j h1 _ => by unfold nd2; rw [u2_ne _ _ (by omega), sr_ne _ _ (by decide)]⟩
      refine r_iload_n 0 rfl dX11_glitch_23 ?_
      refine r_aload_n 2 rfl dX11_glitch_24 ?_
      refine r_getr dX11_glitch_25 fl_X11_31 rfl (hM _ _ _ rfl) ?_
      refine r_bipush (v := 6) rfl dX11_glitch_28 ?_
      refine r_iald dX11_glitch_30 rfl (vpk (k := 6) (by decide) (by decide) rfl) ?_
      have z6 : nd2 V r c 128 (6 : Int32).toNatClampNeg = nI A := hAr
      rw [z6]
      refine r_icmpge (tgt := 55) dX11_glitch_31 (by decide) (fun zh31 => ?_) (fun zh31 => ?_)
      · have hie : i = A := by have := geL (k := A) (by omega) (by omega) zh31; omega
        refine r_aload_n 2 rfl dX11_glitch_55 ?_
        refine r_bipush (v := (-2)) rfl dX11_glitch_56 ?_
        refine r_Vf [.int _] dX11_glitch_58 lk_X11_267 mb_X11_good in_X11_good se_X11_good rfl (c_X11_good) rfl rfl rfl (Nat.le_of_ble_eq_true rfl) (rfl) ?_
        exact r_iret hG dX11_glitch_61 (hend _ _ hnF hcV (by
            unfold glR
            rw [find_none (fun k hk2 => decide_eq_false (hk k (by omega)))]
            rfl))
      · have hlt : i < A := ltL (by omega) zh31
        refine r_aload_n 2 rfl dX11_glitch_34 ?_
        refine r_iload_n 3 rfl dX11_glitch_35 ?_
        refine r_iload_n 0 rfl dX11_glitch_36 ?_
        refine r_Vf [.int _, .int _] dX11_glitch_37 lk_X11_451 mb_X11_harmOf in_X11_harmOf se_X11_harmOf rfl (t_harmOf hM hA hS hP hgV hf hlt) rfl rfl rfl (Nat.le_of_ble_eq_true rfl) (rfl) ?_
        refine r_ifle (tgt := 49) dX11_glitch_40 (by decide) (fun zh40 => ?_) (fun zh40 => ?_)
        · refine r_iinc (v := (nI (i + 1))) (ls2 := [(3, .int (nI (i + 1))), (2, .int (rTr V (nI f))), (0, .ref 124), (1, .int (nI f))]) 0 dX11_glitch_49 rfl (x_inc i) (by decide) rfl ?_
          refine r_goto (tgt := 23) dX11_glitch_52 (by decide) ?_
          refine ih hlt (fun k hk2 => ?_) _ _
          rcases Nat.lt_or_ge k i with q | q
          · exact hk k q
          · obtain rfl : k = i := by omega
            exact Int32.not_lt.mpr zh40
        · refine r_aload_n 2 rfl dX11_glitch_43 ?_
          refine r_iload_n 0 rfl dX11_glitch_44 ?_
          refine r_Vf [.int _] dX11_glitch_45 lk_X11_267 mb_X11_good in_X11_good se_X11_good rfl (c_X11_good) rfl rfl rfl (Nat.le_of_ble_eq_true rfl) (rfl) ?_
          exact r_iret hG dX11_glitch_48 (hend _ _ ndM_F (rCc_nd hcV) (by
              unfold glR
              rw [find_first hlt (decide_eq_true (Int32.not_le.mp zh40)) (fun k hk2 => decide_eq_false (hk k hk2))]
              rfl))
    refine r_aload_n 0 rfl dX11_glitch_0 ?_
    refine r_iconst (v := 0) rfl dX11_glitch_1 ?_
    refine r_puti dX11_glitch_2 fl_X11_3 rfl rfl rfl ?_
    refine r_mem hV.symm rfl rfl ?_
    refine r_aload_n 0 rfl dX11_glitch_5 ?_
    refine r_iload_n 1 rfl dX11_glitch_6 ?_
    refine r_Vf [.int _] dX11_glitch_7 lk_X11_344 mb_X11_refuses in_X11_refuses se_X11_refuses rfl (c_X11_refuses) rfl rfl rfl (Nat.le_of_ble_eq_true rfl) (rfl) ?_
    refine r_istore_n (ls2 := [(2, .int (rTr V (nI f))), (0, .ref 124), (1, .int (nI f))]) dX11_glitch_10 (by decide) rfl ?_
    refine r_iload_n 0 rfl dX11_glitch_11 ?_
    refine r_ifle (tgt := 21) dX11_glitch_12 (by decide) (fun zh12 => ?_) (fun zh12 => ?_)
    rotate_left
    · exact absurd zh12 (fun q => q (by rw [h1]; exact Int32.le_refl 0))
    refine r_iconst (v := 0) rfl dX11_glitch_21 ?_
    refine r_istore_n (ls2 := [(3, .int 0), (2, .int (rTr V (nI f))), (0, .ref 124), (1, .int (nI f))]) dX11_glitch_22 (by decide) rfl ?_
    refine r_mem nd2_id.symm rfl rfl (r_sub [0, 1, 2, 3] rfl (loop 0 (Nat.zero_le _) (fun k hk => absurd hk (Nat.not_lt_zero k)) _ _))
  · have hp : 0 < rTr V x := rTr_0.resolve_left h1
    refine r_aload_n 0 rfl dX11_glitch_0 ?_
    refine r_iconst (v := 0) rfl dX11_glitch_1 ?_
    refine r_puti dX11_glitch_2 fl_X11_3 rfl rfl rfl ?_
    refine r_mem hV.symm rfl rfl ?_
    refine r_aload_n 0 rfl dX11_glitch_5 ?_
    refine r_iload_n 1 rfl dX11_glitch_6 ?_
    refine r_Vf [.int _] dX11_glitch_7 lk_X11_344 mb_X11_refuses in_X11_refuses se_X11_refuses rfl (c_X11_refuses) rfl rfl rfl (Nat.le_of_ble_eq_true rfl) (rfl) ?_
    refine r_istore_n (ls2 := [(2, .int (rTr V x)), (0, .ref 124), (1, .int x)]) dX11_glitch_10 (by decide) rfl ?_
    refine r_iload_n 0 rfl dX11_glitch_11 ?_
    refine r_ifle (tgt := 21) dX11_glitch_12 (by decide) (fun zh12 => ?_) (fun zh12 => ?_)
    · exact absurd zh12 (Int32.not_le.mpr hp)
    refine r_aload_n 1 rfl dX11_glitch_15 ?_
    refine r_iload_n 0 rfl dX11_glitch_16 ?_
    refine r_Vf [.int _] dX11_glitch_17 lk_X11_251 mb_X11_refused in_X11_refused se_X11_refused rfl (c_X11_refused) rfl rfl rfl (Nat.le_of_ble_eq_true rfl) (rfl) ?_
    exact r_iret hG dX11_glitch_20 (rq_end (by rw [← hV]; exact rF_rf _) (fun _ _ => rfl) (by rw [← hV]; exact hcV) (by rw [if_neg h1]; exact ⟨rfl, rfl⟩))
end rharm

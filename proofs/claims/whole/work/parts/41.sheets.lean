/-! the sheets, as they are kept -/
theorem fallR_at (F : Nat → Bool) (B P FB FP : Nat → Int64) : ∀ k, (fallR F B P FB FP k).1 = (fallR F B P (fun _ => 0) (fun _ => 0) k).1 ∧ ∀ i, i < (fallR F B P FB FP k).1 → (fallR F B P FB FP k).2.1 i = (fallR F B P (fun _ => 0) (fun _ => 0) k).2.1 i ∧ (fallR F B P FB FP k).2.2 i = (fallR F B P (fun _ => 0) (fun _ => 0) k).2.2 i
  | 0 => ⟨rfl, fun i hi => absurd hi (Nat.not_lt_zero i)⟩
  | k + 1 => by
    obtain ⟨h1, h2⟩ := fallR_at F B P FB FP k
    rw [fallR, fallR]
    split
    · refine ⟨by show _ + 1 = _ + 1; rw [h1], fun i hi => ?_⟩
      have hi2 : i < (fallR F B P FB FP k).1 + 1 := hi
      show up _ _ _ i = up _ _ _ i ∧ up _ _ _ i = up _ _ _ i
      rw [← h1]
      by_cases z : i = (fallR F B P FB FP k).1
      · subst z
        rw [up_eq, up_eq, up_eq, up_eq]
        exact ⟨rfl, rfl⟩
      · rw [up_ne _ _ z, up_ne _ _ z, up_ne _ _ z, up_ne _ _ z]
        exact h2 i (by omega)
    · exact ⟨h1, h2⟩
theorem safeV_congr {p z : Int64} {FB FP FB2 FP2 : Nat → Int64} {K : Nat} (h : ∀ i, i < K → FB i = FB2 i ∧ FP i = FP2 i) : safeV p z FB FP K = safeV p z FB2 FP2 K := by
  unfold safeV
  congr 1
  rw [Bool.eq_iff_iff, List.all_eq_true, List.all_eq_true]
  constructor
  · intro q i hi
    have := h i (List.mem_range.mp hi)
    rw [← this.1, ← this.2]
    exact q i hi
  · intro q i hi
    have := h i (List.mem_range.mp hi)
    rw [this.1, this.2]
    exact q i hi
theorem gpS_falls {ML : Nat → Nat → Int64} {z : Int64} {FB FP FB2 FP2 : Nat → Int64} {K : Nat} (h : ∀ i, i < K → FB i = FB2 i ∧ FP i = FP2 i) : ∀ m, gpS ML z FB FP K m = gpS ML z FB2 FP2 K m
  | 0 => rfl
  | m + 1 => by rw [gpS, gpS, gpS_falls h m, safeV_congr h]
def zR (MI : Nat → Nat → Int32) (ML : Nat → Nat → Int64) (A f : Nat) : Nat × (Nat → Int64) × (Nat → Int64) := fallR (fun i => fallV (MI 54) (MI 55) (nI f) (nI i)) (fun i => ptsV ML (MI 51 i)) (fun i => ptL (MI 53 i)) (fun _ => 0) (fun _ => 0) A
def zPL (MI : Nat → Nat → Int32) (ML : Nat → Nat → Int64) (A f : Nat) : List Int32 := (gpS ML (ML 49 f) (zR MI ML A f).2.1 (zR MI ML A f).2.2 (zR MI ML A f).1 729).reverse
/-- what a filled sheet holds -/
def ShOK (MI : Nat → Nat → Int32) (ML : Nat → Nat → Int64) (A f : Nat) : Prop :=
  MI (89 + 7 * f) 6 = nI (reqL MI (nI f) A).length ∧ (∀ i, i < (reqL MI (nI f) A).length → MI (89 + 7 * f + 1) i = (reqL MI (nI f) A).getD i 0) ∧ MI (89 + 7 * f) 9 = nI (zR MI ML A f).1 ∧ MI (89 + 7 * f) 11 = nI (zPL MI ML A f).length ∧ (∀ i, i < (zPL MI ML A f).length → MI (89 + 7 * f + 4) i = (zPL MI ML A f).getD i 0) ∧ (∀ i, i < (zR MI ML A f).1 → ML (89 + 7 * f + 2) i = (zR MI ML A f).2.1 i ∧ ML (89 + 7 * f + 3) i = (zR MI ML A f).2.2 i) ∧ Fy ML (89 + 7 * f) (reqL MI (nI f) A) (zPL MI ML A f) MI
def shI (MI : Nat → Nat → Int32) (ML : Nat → Nat → Int64) (A : Nat) : Prop := ∀ f, f < 5 → MI (89 + 7 * f) 0 = nI f ∧ (MI (89 + 7 * f) 4 = 0 ∨ (MI (89 + 7 * f) 4 = 1 ∧ ShOK MI ML A f))
/-- what a sheet is found from stays -/
def shB (MI MI2 : Nat → Nat → Int32) (ML ML2 : Nat → Nat → Int64) : Prop := MI2 1 3 = MI 1 3 ∧ (∀ b, b = 2 ∨ (4 ≤ b ∧ b ≤ 11) ∨ (44 ≤ b ∧ b ≤ 55) → MI2 b = MI b) ∧ ML2 49 = ML 49 ∧ ML2 58 = ML 58
theorem partV_cg {MI MI2 : Nat → Nat → Int32} (h : ∀ b, 4 ≤ b → b ≤ 11 → MI2 b = MI b) (x y : Int32) : partV MI2 1 x y = partV MI 1 x y := by
  unfold partV
  split
  · rename_i z
    have hx := inR_t.mp z.1
    have := clampLt (N := 8) (by decide) hx.1 hx.2
    rw [h _ (by omega) (by omega)]
  · rfl
theorem reqA_cg {MI MI2 : Nat → Nat → Int32} (h : ∀ b, b = 2 ∨ (4 ≤ b ∧ b ≤ 11) ∨ (44 ≤ b ∧ b ≤ 55) → MI2 b = MI b) (f : Int32) : ∀ k, reqA MI2 f k = reqA MI f k
  | 0 => rfl
  | k + 1 => by
    have hp := partV_cg (MI := MI) (MI2 := MI2) (fun b h1 h2 => h b (by omega))
    have e : frMI MI2 (nI k) f = frMI MI (nI k) f := by
      unfold frMI burstV
      rw [h 51 (by decide), h 52 (by decide), h 53 (by decide), h 54 (by decide), h 55 (by decide), hp, hp]
    rw [reqA, reqA, reqA_cg h f k, e]
theorem reqL_cg {MI MI2 : Nat → Nat → Int32} {ML ML2 : Nat → Nat → Int64} (h : shB MI MI2 ML ML2) (f : Int32) (A : Nat) : reqL MI2 f A = reqL MI f A := by
  unfold reqL
  rw [reqA_cg h.2.1, h.1, h.2.1 45 (by decide), h.2.1 44 (by decide), h.2.1 2 (by decide)]
theorem ptsV_cg {MI MI2 : Nat → Nat → Int32} {ML ML2 : Nat → Nat → Int64} (h : shB MI MI2 ML ML2) (x : Int32) : ptsV ML2 x = ptsV ML x := by
  unfold ptsV
  rw [h.2.2.2]
theorem zR_cg {MI MI2 : Nat → Nat → Int32} {ML ML2 : Nat → Nat → Int64} (h : shB MI MI2 ML ML2) (A f : Nat) : zR MI2 ML2 A f = zR MI ML A f := by
  unfold zR
  rw [h.2.1 54 (by decide), h.2.1 55 (by decide), h.2.1 51 (by decide), h.2.1 53 (by decide)]
  simp only [ptsV_cg h]
theorem zPL_cg {MI MI2 : Nat → Nat → Int32} {ML ML2 : Nat → Nat → Int64} (h : shB MI MI2 ML ML2) (A f : Nat) : zPL MI2 ML2 A f = zPL MI ML A f := by
  unfold zPL
  rw [zR_cg h, gpS_congr (ptsV_cg h), h.2.2.1]
theorem ShOK_cg {MI MI2 : Nat → Nat → Int32} {ML ML2 : Nat → Nat → Int64} (h : shB MI MI2 ML ML2) {A f : Nat} (hs : ∀ b, 89 + 7 * f ≤ b → b ≤ 89 + 7 * f + 6 → MI2 b = MI b ∧ ML2 b = ML b) (ok : ShOK MI ML A f) : ShOK MI2 ML2 A f := by
  unfold ShOK Fy at *
  simp only [reqL_cg h, zR_cg h, zPL_cg h, ptsV_cg h, (hs (89 + 7 * f) (by omega) (by omega)).1, (hs (89 + 7 * f + 1) (by omega) (by omega)).1, (hs (89 + 7 * f + 4) (by omega) (by omega)).1, (hs (89 + 7 * f + 5) (by omega) (by omega)).1, (hs (89 + 7 * f + 6) (by omega) (by omega)).1, (hs (89 + 7 * f + 2) (by omega) (by omega)).2, (hs (89 + 7 * f + 3) (by omega) (by omega)).2]
  exact ok
/-- sheets that are ready stay as they are -/
def shK (MI : Nat → Nat → Int32) (ML : Nat → Nat → Int64) (W : Nat → Nat → Int32) (B : Nat → Nat → Int64) : Prop := ∀ f, f < 5 → MI (89 + 7 * f) 4 = 1 → ∀ b, 89 + 7 * f ≤ b → b ≤ 89 + 7 * f + 6 → W b = MI b ∧ B b = ML b
/-- what the filling of sheets (and of the row found) changes -/
def shE (MI : Nat → Nat → Int32) (ML : Nat → Nat → Int64) (A : Nat) (W : Nat → Nat → Int32) (B : Nat → Nat → Int64) : Prop := (∀ b, b < 56 → b ≠ 0 → W b = MI b) ∧ (∀ b, 56 < b → b < 86 → W b = MI b) ∧ (∀ b, 123 < b → W b = MI b) ∧ (∀ b, b < 87 ∨ 123 < b → B b = ML b) ∧ shK MI ML W B ∧ shI W B A ∧ ∀ j, j ≠ 8 → W 0 j = MI 0 j
theorem shE_B {MI W : Nat → Nat → Int32} {ML B : Nat → Nat → Int64} {A : Nat} (h : shE MI ML A W B) : shB MI W ML B := ⟨congrFun (h.1 1 (by decide) (by decide)) 3, fun b hb => h.1 b (by omega) (by omega), h.2.2.2.1 49 (by decide), h.2.2.2.1 58 (by decide)⟩
theorem shE_rf {MI : Nat → Nat → Int32} {ML : Nat → Nat → Int64} {A : Nat} (h : shI MI ML A) : shE MI ML A MI ML := ⟨fun _ _ _ => rfl, fun _ _ _ => rfl, fun _ _ => rfl, fun _ _ => rfl, fun _ _ _ _ _ _ => ⟨rfl, rfl⟩, h, fun _ _ => rfl⟩
theorem shE_tr {MI W W2 : Nat → Nat → Int32} {ML B B2 : Nat → Nat → Int64} {A : Nat} (h1 : shE MI ML A W B) (h2 : shE W B A W2 B2) : shE MI ML A W2 B2 := by
  obtain ⟨a1, a2, a3, a4, a5, a6, a7⟩ := h1
  obtain ⟨c1, c2, c3, c4, c5, c6, c7⟩ := h2
  refine ⟨fun b z1 z2 => (c1 b z1 z2).trans (a1 b z1 z2), fun b z1 z2 => (c2 b z1 z2).trans (a2 b z1 z2), fun b z => (c3 b z).trans (a3 b z), fun b z => (c4 b z).trans (a4 b z), fun f hf hr b z1 z2 => ?_, c6, fun j hj => (c7 j hj).trans (a7 j hj)⟩
  have e := a5 f hf hr b z1 z2
  have er : W (89 + 7 * f) 4 = 1 := by rw [(a5 f hf hr _ (Nat.le_refl _) (by omega)).1]; exact hr
  have e2 := c5 f hf er b z1 z2
  exact ⟨e2.1.trans e.1, e2.2.trans e.2⟩
/-- shI over a change of cells that no sheet knows -/
theorem shI_cg {MI MI2 : Nat → Nat → Int32} {ML ML2 : Nat → Nat → Int64} {A : Nat} (h : shB MI MI2 ML ML2) (hs : ∀ b, 89 ≤ b → b ≤ 123 → MI2 b = MI b ∧ ML2 b = ML b) (hI : shI MI ML A) : shI MI2 ML2 A := fun f hf => by
  have e0 := (hs (89 + 7 * f) (by omega) (by omega)).1
  rw [e0]
  obtain ⟨h1, h2⟩ := hI f hf
  refine ⟨h1, ?_⟩
  rcases h2 with z | ⟨z1, z2⟩
  · exact Or.inl z
  · exact Or.inr ⟨z1, ShOK_cg h (fun b y1 y2 => hs b (by omega) (by omega)) z2⟩
theorem shE_w {MI W : Nat → Nat → Int32} {ML B : Nat → Nat → Int64} {A : Nat} {x : Int32} (h : shE MI ML A W B) : shE MI ML A (u2 W 0 8 x) B := by
  obtain ⟨a1, a2, a3, a4, a5, a6, a7⟩ := h
  have e : ∀ b, b ≠ 0 → u2 W 0 8 x b = W b := fun b z => u2_row _ _ z
  refine ⟨fun b z1 z2 => (e b z2).trans (a1 b z1 z2), fun b z1 z2 => (e b (by omega)).trans (a2 b z1 z2), fun b z => (e b (by omega)).trans (a3 b z), a4, fun f hf hr b z1 z2 => ⟨(e b (by omega)).trans (a5 f hf hr b z1 z2).1, (a5 f hf hr b z1 z2).2⟩, shI_cg ⟨congrFun (e 1 (by decide)) 3, fun b hb => e b (by omega), rfl, rfl⟩ (fun b z1 z2 => ⟨e b (by omega), rfl⟩) a6, fun j hj => (u2_ne _ _ (by omega)).trans (a7 j hj)⟩
theorem shE_56 {MI : Nat → Nat → Int32} {ML : Nat → Nat → Int64} {A : Nat} {g : Nat → Int32} (h : shI MI ML A) : shE MI ML A (sr MI 56 g) ML := by
  have e : ∀ b, b ≠ 56 → sr MI 56 g b = MI b := fun b z => sr_ne _ _ z
  exact ⟨fun b z1 z2 => e b (by omega), fun b z1 z2 => e b (by omega), fun b z => e b (by omega), fun _ _ => rfl, fun f hf hr b z1 z2 => ⟨e b (by omega), rfl⟩, shI_cg ⟨congrFun (e 1 (by decide)) 3, fun b hb => e b (by omega), rfl, rfl⟩ (fun b z1 z2 => ⟨e b (by omega), rfl⟩) h, fun j hj => congrFun (e 0 (by decide)) j⟩
section sheets
variable {X : xG} {n : Nat} {MI : Nat → Nat → Int32} {ML : Nat → Nat → Int64} {MR : Nat → Nat → Option Nat}
theorem fill_E {A f : Nat} (hA8 : A ≤ 8) (hf : f < 5) {W : Nat → Nat → Int32} {B : Nat → Nat → Int64} (hI : shI MI ML A) (hr : ¬ MI (89 + 7 * f) 4 = 1) {R : Nat × (Nat → Int64) × (Nat → Int64)} (hR : R = fallR (fun i => fallV (MI 54) (MI 55) (nI f) (nI i)) (fun i => ptsV ML (MI 51 i)) (fun i => ptL (MI 53 i)) (ML (89 + 7 * f + 2)) (ML (89 + 7 * f + 3)) A) (hF : Fx MI ML (89 + 7 * f) (reqL MI (nI f) A) (zPL MI ML A f) R W B) (h4 : W (89 + 7 * f) 4 = 1) (hy : Fy ML (89 + 7 * f) (reqL MI (nI f) A) (zPL MI ML A f) W) : shE MI ML A W B := by
  obtain ⟨f1, f2, f3, f4, f5, f6, f7, f8, f9, f10, f11⟩ := hF
  have hB : shB MI W ML B := ⟨congrFun (f1 1 (by decide)) 3, fun b hb => f1 b (by omega), f4 49 (by decide) (by decide) (by omega) (by omega), f4 58 (by decide) (by decide) (by omega) (by omega)⟩
  have hfa := fallR_at (fun i => fallV (MI 54) (MI 55) (nI f) (nI i)) (fun i => ptsV ML (MI 51 i)) (fun i => ptL (MI 53 i)) (ML (89 + 7 * f + 2)) (ML (89 + 7 * f + 3)) A
  rw [← hR] at hfa
  have hok : ShOK W B A f := by
    unfold ShOK
    rw [reqL_cg hB, zR_cg hB, zPL_cg hB]
    have hfa1 : R.1 = (zR MI ML A f).1 := hfa.1
    refine ⟨f5, f6, by rw [f7, hfa1], f8, f9, fun i hi => ?_, ?_⟩
    · rw [f10, f11]
      exact hfa.2 i (by rw [hfa1]; exact hi)
    · unfold Fy at hy ⊢
      simp only [ptsV_cg hB]
      exact hy
  refine ⟨fun b z1 z2 => f1 b (by omega), fun b z1 z2 => f2 b z1 (by omega) (by omega), fun b z => f2 b (by omega) (by omega) (by omega), fun b z => f4 b (by omega) (by omega) (by omega) (by omega), fun f' hf' hr' b z1 z2 => ?_, fun f' hf' => ?_, fun j hj => congrFun (f1 0 (by decide)) j⟩
  · have hne : f' ≠ f := fun e => hr (e ▸ hr')
    exact ⟨f2 b (by omega) (by omega) (by omega), f4 b (by omega) (by omega) (by omega) (by omega)⟩
  · by_cases he : f' = f
    · subst he
      exact ⟨f3.trans (hI f' hf').1, Or.inr ⟨h4, hok⟩⟩
    · have e : ∀ b, 89 + 7 * f' ≤ b → b ≤ 89 + 7 * f' + 6 → W b = MI b ∧ B b = ML b := fun b z1 z2 => ⟨f2 b (by omega) (by omega) (by omega), f4 b (by omega) (by omega) (by omega) (by omega)⟩
      rw [(e _ (Nat.le_refl _) (by omega)).1]
      obtain ⟨h1, h2⟩ := hI f' hf'
      refine ⟨h1, ?_⟩
      rcases h2 with z | ⟨z1, z2⟩
      · exact Or.inl z
      · exact Or.inr ⟨z1, ShOK_cg hB e z2⟩
set_option maxRecDepth 100000 in
theorem c_X10_sheetOf (hM : x_Lay MR) (hS2 : x_S2 X) {A f : Nat} (hA : A ≤ 8) (hAr : MI 1 6 = nI A) (hI : shI MI ML A) (hf : f < 5) : Ct X yX10_sheetOf cX10_sheetOf 3 (some (.object "BurstDesk$Sheet")) 11 0 0 [.ref 0, .int (nI f)] n SH MI ML MR n SH (fun r0 W B C => r0 = some (.ref (89 + 7 * f)) ∧ C = MR ∧ shE MI ML A W B ∧ W 0 = MI 0 ∧ W (89 + 7 * f) 4 = 1 ∧ (MI (89 + 7 * f) 4 = 1 → W = MI ∧ B = ML)) := by
  have hx := hI f hf
  obtain ⟨R, hR⟩ : ∃ R, R = fallR (fun i => fallV (MI 54) (MI 55) (nI f) (nI i)) (fun i => ptsV ML (MI 51 i)) (fun i => ptL (MI 53 i)) (ML (89 + 7 * f + 2)) (ML (89 + 7 * f + 3)) A := ⟨_, rfl⟩
  have hfa := fallR_at (fun i => fallV (MI 54) (MI 55) (nI f) (nI i)) (fun i => ptsV ML (MI 51 i)) (fun i => ptL (MI 53 i)) (ML (89 + 7 * f + 2)) (ML (89 + 7 * f + 3)) A
  rw [← hR] at hfa
  have hPL : zPL MI ML A f = (gpS ML (ML 49 f) R.2.1 R.2.2 R.1 729).reverse := by
    unfold zPL
    have h1 : R.1 = (zR MI ML A f).1 := hfa.1
    rw [← h1]
    congr 1
    exact (gpS_falls (fun i hi => ⟨(hfa.2 i hi).1, (hfa.2 i hi).2⟩) 729).symm
  refine Ct_of (by decide) (Nat.le_of_ble_eq_true rfl) (fun G hG => ?_)
  refine r_aload_n 0 rfl dX10_sheetOf_0 ?_
  refine r_getr dX10_sheetOf_1 fl_X10_48 rfl (hM _ _ _ rfl) ?_
  refine r_iload_n 1 rfl dX10_sheetOf_4 ?_
  refine r_iflt (tgt := 17) dX10_sheetOf_5 (by decide) (fun zh5 => ?_) (fun zh5 => ?_)
  · exact absurd zh5 (nI_pos (by omega))
  refine r_iload_n 1 rfl dX10_sheetOf_8 ?_
  refine r_iconst (v := 5) rfl dX10_sheetOf_9 ?_
  refine r_icmpge (tgt := 17) dX10_sheetOf_10 (by decide) (fun zh10 => ?_) (fun zh10 => ?_)
  · exact absurd zh10 (fun q => absurd (geL (k := 5) (by decide) (by omega) q) (by omega))
  refine r_iload_n 1 rfl dX10_sheetOf_13 ?_
  refine r_goto (tgt := 18) dX10_sheetOf_14 (by decide) ?_
  refine r_aald dX10_sheetOf_18 rfl (by decide) (vp_in_nI hf (by decide)) (by rw [nI_clamp (by omega)]; exact sheetR hM hf) ?_
  refine r_astore_n (ls2 := [(2, .ref (89 + 7 * f)), (0, .ref 0), (1, .int (nI f))]) dX10_sheetOf_19 (by decide) rfl ?_
  refine r_aload_n 0 rfl dX10_sheetOf_20 ?_
  refine r_geti dX10_sheetOf_21 fl_X10_334 (shOf hM hf).1 ?_
  refine r_ifne (tgt := 31) dX10_sheetOf_24 (by decide) (fun zh24 => ?_) (fun zh24 => ?_)
  · refine r_aload_n 0 rfl dX10_sheetOf_31 ?_
    exact r_aret hG (Or.inl ⟨_, rfl⟩) dX10_sheetOf_32 (by first
        | (exact ⟨rfl, rfl, fill_E hA hf hI (fun z => by rw [z] at zh24; exact absurd zh24 (by decide)) hR hF h4 hy, hF.1 0 (by decide), h4, fun z => by rw [z] at zh24; exact absurd zh24 (by decide)⟩)
        | (have h1 : MI (89 + 7 * f) 4 = 1 := hx.2.elim (fun z => absurd z zh24) (fun z => z.1)
           exact ⟨rfl, rfl, shE_rf hI, rfl, h1, fun _ => ⟨rfl, rfl⟩⟩))
  · refine r_aload_n 0 rfl dX10_sheetOf_27 ?_
    refine r_Vg [] dX10_sheetOf_28 lk_X10_340 mb_X7_fill in_X7_fill se_X7_fill rfl (c_X7_fill hM hS2 (shOf hM hf) hA hAr hf hx.1 (RL := reqL MI (nI f) A) (PL := zPL MI ML A f) (R := R) rfl hR hPL) (shOf hM hf).1 rfl rfl (Nat.le_of_ble_eq_true rfl) (rfl) (fun r W B C hz => ?_)
    obtain ⟨rfl, rfl, hF, h4, hy⟩ := hz
    refine r_aload_n 0 rfl dX10_sheetOf_31 ?_
    exact r_aret hG (Or.inl ⟨_, rfl⟩) dX10_sheetOf_32 (by first
        | (exact ⟨rfl, rfl, fill_E hA hf hI (fun z => by rw [z] at zh24; exact absurd zh24 (by decide)) hR hF h4 hy, hF.1 0 (by decide), h4, fun z => by rw [z] at zh24; exact absurd zh24 (by decide)⟩)
        | (have h1 : MI (89 + 7 * f) 4 = 1 := hx.2.elim (fun z => absurd z zh24) (fun z => z.1)
           exact ⟨rfl, rfl, shE_rf hI, rfl, h1, fun _ => ⟨rfl, rfl⟩⟩))
end sheets

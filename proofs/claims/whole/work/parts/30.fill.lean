/-! Sheet: fill -/
/-- what stands in a Sheet behind gatherPrimes, and what hasn't changed -/
def Fx (MI : Nat → Nat → Int32) (ML : Nat → Nat → Int64) (a : Nat) (RL PL : List Int32) (R : Nat × (Nat → Int64) × (Nat → Int64)) (W : Nat → Nat → Int32) (B : Nat → Nat → Int64) : Prop :=
  (∀ b, b < 56 → W b = MI b) ∧ (∀ b, 56 < b → b ≠ 86 → (b < a ∨ a + 6 < b) → W b = MI b) ∧ W a 0 = MI a 0 ∧ (∀ b, b ≠ 87 → b ≠ 88 → b ≠ a + 2 → b ≠ a + 3 → B b = ML b) ∧ W a 6 = nI RL.length ∧ (∀ i, i < RL.length → W (a + 1) i = RL.getD i 0) ∧ W a 9 = nI R.1 ∧ W a 11 = nI PL.length ∧ (∀ i, i < PL.length → W (a + 4) i = PL.getD i 0) ∧ B (a + 2) = R.2.1 ∧ B (a + 3) = R.2.2
section fx
variable {MI : Nat → Nat → Int32} {ML : Nat → Nat → Int64} {a : Nat} {RL PL : List Int32} {R : Nat × (Nat → Int64) × (Nat → Int64)} {W : Nat → Nat → Int32} {B : Nat → Nat → Int64}
theorem Fx_W (ha : 88 < a) {W2 : Nat → Nat → Int32} (h : Fx MI ML a RL PL R W B) (h1 : ∀ b, b ≠ 86 → b ≠ a → b ≠ a + 5 → b ≠ a + 6 → W2 b = W b) (h2 : ∀ j, j = 0 ∨ j = 6 ∨ j = 9 ∨ j = 11 → W2 a j = W a j) : Fx MI ML a RL PL R W2 B := by
  obtain ⟨f1, f2, f3, f4, f5, f6, f7, f8, f9, f10, f11⟩ := h
  refine ⟨fun b hb => ?_, fun b h3 h4 h5 => ?_, ?_, f4, ?_, fun i hi => ?_, ?_, ?_, fun i hi => ?_, f10, f11⟩
  · rw [h1 b (by omega) (by omega) (by omega) (by omega)]; exact f1 b hb
  · rw [h1 b h4 (by omega) (by omega) (by omega)]; exact f2 b h3 h4 h5
  · rw [h2 0 (by omega)]; exact f3
  · rw [h2 6 (by omega)]; exact f5
  · rw [h1 (a + 1) (by omega) (by omega) (by omega) (by omega)]; exact f6 i hi
  · rw [h2 9 (by omega)]; exact f7
  · rw [h2 11 (by omega)]; exact f8
  · rw [h1 (a + 4) (by omega) (by omega) (by omega) (by omega)]; exact f9 i hi
theorem Fx_B (ha : 88 < a) {B2 : Nat → Nat → Int64} (h : Fx MI ML a RL PL R W B) (h1 : ∀ b, b ≠ 87 → b ≠ 88 → B2 b = B b) : Fx MI ML a RL PL R W B2 := by
  obtain ⟨f1, f2, f3, f4, f5, f6, f7, f8, f9, f10, f11⟩ := h
  exact ⟨f1, f2, f3, fun b z1 z2 z3 z4 => by rw [h1 b z1 z2]; exact f4 b z1 z2 z3 z4, f5, f6, f7, f8, f9, by rw [h1 _ (by omega) (by omega)]; exact f10, by rw [h1 _ (by omega) (by omega)]; exact f11⟩
end fx
/-- what a filled Sheet answers: needed, lacking, fewest, chosen, literals, signs -/
def Fy (ML : Nat → Nat → Int64) (a : Nat) (RL PL : List Int32) (W : Nat → Nat → Int32) : Prop :=
  ∃ (Hr g : Nat → Int64) (row : Nat → Int32), (∀ p, p < PL.length → Hr p = heldL (ptsV ML (PL.getD p 0)) (fun i => ptsV ML (RL.getD i 0)) RL.length) ∧ isBits g RL.length ∧ W a 14 = nI (cntH Hr (aloneL Hr PL.length RL.length) PL.length) ∧ W a 15 = opt2 (lackO Hr PL.length RL.length) ∧ (lackO Hr PL.length RL.length = none → W a 13 = nI (lrR Hr g PL.length RL.length row).1 ∧ W (a + 5) = (lrR Hr g PL.length RL.length row).2) ∧ (¬ lackO Hr PL.length RL.length = none → W a 13 = -2) ∧
  (∀ K, K ≤ 5 → W a 13 = nI K → W a 16 = nI (spA (fun i => pickV (W (a + 4)) 240 (W (a + 5) i)) K).2 ∧ W a 18 = nI (fmL (fun i => pickV (W (a + 4)) 240 (W (a + 5) i)) K).length ∧ ∀ i, i < (fmL (fun i => pickV (W (a + 4)) 240 (W (a + 5) i)) K).length → W (a + 6) i = (fmL (fun i => pickV (W (a + 4)) 240 (W (a + 5) i)) K).getD i 0)
theorem heldL_congr {p : Int64} {T T' : Nat → Int64} : ∀ {K : Nat}, (∀ i, i < K → T i = T' i) → heldL p T K = heldL p T' K
  | 0, _ => rfl
  | K + 1, h => by rw [heldL, heldL, h K (by omega), heldL_congr (fun i hi => h i (by omega))]
theorem gpS_congr {ML ML2 : Nat → Nat → Int64} (h : ∀ x, ptsV ML2 x = ptsV ML x) (z : Int64) (FB FP : Nat → Int64) (K : Nat) : ∀ m, gpS ML2 z FB FP K m = gpS ML z FB FP K m
  | 0 => rfl
  | m + 1 => by
    rw [gpS, gpS, gpS_congr h z FB FP K m]
    simp only [h]
theorem fin_spell {MI : Nat → Nat → Int32} {ML : Nat → Nat → Int64} {a : Nat} {RL PL : List Int32} {R : Nat × (Nat → Int64) × (Nat → Int64)} {W : Nat → Nat → Int32} {B : Nat → Nat → Int64} (ha : 88 < a) (hF : Fx MI ML a RL PL R W B) {Hr g : Nat → Int64} {row : Nat → Int32} (h1 : ∀ p, p < PL.length → Hr p = heldL (ptsV ML (PL.getD p 0)) (fun i => ptsV ML (RL.getD i 0)) RL.length) (h2 : isBits g RL.length) (h3 : W a 14 = nI (cntH Hr (aloneL Hr PL.length RL.length) PL.length)) (h4 : W a 15 = opt2 (lackO Hr PL.length RL.length)) (h5 : lackO Hr PL.length RL.length = none → W a 13 = nI (lrR Hr g PL.length RL.length row).1 ∧ W (a + 5) = (lrR Hr g PL.length RL.length row).2) (h6 : ¬ lackO Hr PL.length RL.length = none → W a 13 = -2) {K lc : Nat} {L : List Int32} (hL : L = if hasF (W a 13) = true then fmL (fun i => pickV (W (a + 4)) 240 (W (a + 5) i)) K else []) (hlc : lc = if hasF (W a 13) = true then (spA (fun i => pickV (W (a + 4)) 240 (W (a + 5) i)) K).2 else 0) (hK : hasF (W a 13) = true → K ≤ 5 ∧ W a 13 = nI K) : Fx MI ML a RL PL R (u2 (sgM W a (W (a + 6)) L lc) a 4 1) B ∧ u2 (sgM W a (W (a + 6)) L lc) a 4 1 a 4 = 1 ∧ Fy ML a RL PL (u2 (sgM W a (W (a + 6)) L lc) a 4 1) := by
  have e : ∀ j, j ≠ 4 → j ≠ 16 → j ≠ 18 → u2 (sgM W a (W (a + 6)) L lc) a 4 1 a j = W a j := fun j z1 z2 z3 => by rw [u2_ne _ _ (by omega), sgM_f z2 z3]
  have eb : ∀ b, b ≠ a → b ≠ a + 6 → u2 (sgM W a (W (a + 6)) L lc) a 4 1 b = W b := fun b z1 z2 => by rw [u2_row _ _ z1, sgM_b z1 z2]
  refine ⟨Fx_W ha hF (fun b z1 z2 z3 z4 => eb b z2 z4) (fun j hj => e j (by omega) (by omega) (by omega)), u2_eq _ _ _ _, Hr, g, row, h1, h2, ?_, ?_, ?_, ?_, ?_⟩
  · rw [e 14 (by decide) (by decide) (by decide)]; exact h3
  · rw [e 15 (by decide) (by decide) (by decide)]; exact h4
  · rw [e 13 (by decide) (by decide) (by decide), eb (a + 5) (by omega) (by omega)]; exact h5
  · rw [e 13 (by decide) (by decide) (by decide)]; exact h6
  · intro K2 hK2 hK3
    rw [e 13 (by decide) (by decide) (by decide)] at hK3
    have hh : hasF (W a 13) = true := by
      rw [hK3]
      unfold hasF
      exact decide_eq_true ⟨nI_pos (by omega), fun q => absurd ((nI_ltI (a := 5) (b := K2) (by decide) (by omega)).mp q) (by omega)⟩
    obtain ⟨g1, g2⟩ := hK hh
    have hKK : K2 = K := (nI_eq (by omega) (by omega)).mp (hK3.symm.trans g2)
    subst hKK
    rw [if_pos hh] at hL hlc
    rw [eb (a + 4) (by omega) (by omega), eb (a + 5) (by omega) (by omega), ← hL, ← hlc]
    refine ⟨?_, ?_, fun i hi => ?_⟩
    · rw [u2_ne _ _ (by omega), sgM_l]
    · rw [u2_ne _ _ (by omega), sgM_s]
    · rw [u2_row _ _ (show a + 6 ≠ a by omega)]
      unfold sgM
      rw [u2_row _ _ (show a + 6 ≠ a by omega), u2_row _ _ (show a + 6 ≠ a by omega), sr_eq, layL_lt hi]
theorem lrN_le (f : Nat → Bool) : lrN f ≤ 6 := by
  unfold lrN
  cases h : (List.range 6).find? f with
  | none => exact Nat.le_refl _
  | some c => exact Nat.le_of_lt (List.mem_range.mp (List.mem_of_find?_eq_some h))
theorem hasF_nI {c : Nat} (h : c ≤ 6) (hh : hasF (nI c) = true) : c ≤ 5 := by
  unfold hasF at hh
  have h2 := (of_decide_eq_true hh).2
  rcases Nat.lt_or_ge 5 c with q | q
  · exact absurd (nI_lt q (by omega)) h2
  · exact q
section fill
variable {X : xG} {n : Nat} {MI : Nat → Nat → Int32} {ML : Nat → Nat → Int64} {MR : Nat → Nat → Option Nat} {a : Nat}
set_option maxRecDepth 100000 in
theorem c_X7_fill (hM : x_Lay MR) (hS2 : x_S2 X) (hA0 : x_Sh MR a) {A f : Nat} (hA8 : A ≤ 8) (hAr : MI 1 6 = nI A) (hf5 : f < 5) (hf : MI a 0 = nI f) {RL PL : List Int32} {R : Nat × (Nat → Int64) × (Nat → Int64)} (hRL : RL = reqL MI (nI f) A) (hR : R = fallR (fun i => fallV (MI 54) (MI 55) (nI f) (nI i)) (fun i => ptsV ML (MI 51 i)) (fun i => ptL (MI 53 i)) (ML (a + 2)) (ML (a + 3)) A) (hPL : PL = (gpS ML (ML 49 f) R.2.1 R.2.2 R.1 729).reverse) :
    Ct X yX7_fill cX7_fill 2 none 10 0 0 [.ref a] n SH MI ML MR n SH (fun r0 W B C => r0 = none ∧ C = MR ∧ Fx MI ML a RL PL R W B ∧ W a 4 = 1 ∧ Fy ML a RL PL W) := by
  have hA := hA0
  obtain ⟨s0, m1, m2, m3, m5, m7, m8, m10, m12, m17, s1, s2, s3, s4, s5, s6, hal⟩ := hA
  have hnp : PL.length ≤ 240 := by rw [hPL, List.length_reverse]; exact gpS_len _ _ _ _ _ _
  have hnr : RL.length ≤ 33 := by
    rw [hRL]
    have h1 := reqA_len MI (nI f) A
    unfold reqL
    split
    · omega
    · have h2 := addL_len (reqA MI (nI f) A) (numC (pointV (MI 44) (MI 2) (MI 1 3)) 0 6)
      omega
  refine Ct_of (by decide) (Nat.le_of_ble_eq_true rfl) (fun G hG => ?_)
  have j65 : ∀ W B, Fx MI ML a RL PL R W B → W 86 1 = nI PL.length → W 86 2 = nI RL.length → (∀ p, p < PL.length → B 87 p = heldL (ptsV ML (PL.getD p 0)) (fun i => ptsV ML (RL.getD i 0)) RL.length) → RW X G RX7 cX7_fill 2 (x_rm 10 0 0) n SH W B MR 0 0 65 [(1, .int (nI PL.length)), (0, .ref a)] [] := by
    intro W B hF h1 h2 hq
    have hF0 := hF
    obtain ⟨f1, f2, f3, f4, f5, f6, f7, f8, f9, f10, f11⟩ := hF
    obtain ⟨c14, hc14⟩ : ∃ c, c = nI (cntH (B 87) (aloneL (B 87) PL.length RL.length) PL.length) := ⟨_, rfl⟩
    obtain ⟨c15, hc15⟩ : ∃ c, c = opt2 (lackO (B 87) PL.length RL.length) := ⟨_, rfl⟩
    obtain ⟨W2, hW2⟩ : ∃ V, V = u2 (u2 W a 14 c14) a 15 c15 := ⟨_, rfl⟩
    have w86 : W2 86 = W 86 := by rw [hW2, u2_row _ _ (by omega), u2_row _ _ (by omega)]
    have w15 : W2 a 15 = c15 := by rw [hW2, u2_eq]
    have w14 : W2 a 14 = c14 := by rw [hW2, u2_ne _ _ (by omega), u2_eq]
    have hF2 : Fx MI ML a RL PL R W2 B := Fx_W hal hF0 (fun b z1 z2 z3 z4 => by rw [hW2, u2_row _ _ z2, u2_row _ _ z2]) (fun j hj => by rw [hW2, u2_ne _ _ (by omega), u2_ne _ _ (by omega)])
    have hlast : ∀ (V : Nat → Nat → Int32) (B2 : Nat → Nat → Int64) (Hr g : Nat → Int64) (row : Nat → Int32), Fx MI ML a RL PL R V B2 → (∀ p, p < PL.length → Hr p = heldL (ptsV ML (PL.getD p 0)) (fun i => ptsV ML (RL.getD i 0)) RL.length) → isBits g RL.length → V a 14 = nI (cntH Hr (aloneL Hr PL.length RL.length) PL.length) → V a 15 = opt2 (lackO Hr PL.length RL.length) → (lackO Hr PL.length RL.length = none → V a 13 = nI (lrR Hr g PL.length RL.length row).1 ∧ V (a + 5) = (lrR Hr g PL.length RL.length row).2) → (¬ lackO Hr PL.length RL.length = none → V a 13 = -2) → RW X G RX7 cX7_fill 2 (x_rm 10 0 0) n SH V B2 MR 0 0 116 [(1, .int (nI PL.length)), (0, .ref a)] [] := by
      intro V B2 Hr g row hFV g1 g2 g3 g4 g5 g6
      have hK : hasF (V a 13) = true → (lrR Hr g PL.length RL.length row).1 ≤ 5 ∧ V a 13 = nI (lrR Hr g PL.length RL.length row).1 := fun hh => by
        by_cases z : lackO Hr PL.length RL.length = none
        · have hv := (g5 z).1
          rw [hv] at hh
          exact ⟨hasF_nI (lrN_le _) hh, hv⟩
        · rw [g6 z] at hh
          exact absurd hh (by decide)
      refine r_aload_n 1 rfl dX7_fill_116 ?_
      refine r_Vn [] dX7_fill_117 lk_X7_105 mb_X7_spell in_X7_spell se_X7_spell rfl (c_X7_spell hS2 hA0 hK rfl rfl) s0 rfl rfl (Nat.le_of_ble_eq_true rfl) (rfl) ?_
      refine r_aload_n 1 rfl dX7_fill_120 ?_
      refine r_iconst (v := 1) rfl dX7_fill_121 ?_
      refine r_puti dX7_fill_122 fl_X7_108 s0 rfl rfl ?_
      exact r_vret hG dX7_fill_125 (⟨rfl, rfl, fin_spell hal hFV g1 g2 g3 g4 g5 g6 rfl rfl hK⟩)
    have lackN : c15 = -2 → lackO (B 87) PL.length RL.length = none := fun h => by
      cases z : lackO (B 87) PL.length RL.length with
      | none => rfl
      | some q =>
        rw [hc15, z] at h
        have hq2 : q < RL.length := List.mem_range.mp (List.mem_of_find?_eq_some z)
        exact absurd h (fun e => by
          have := nI_pos' (n := q) (by omega)
          rw [show nI q = -2 from e] at this
          exact absurd this (by decide))
    have triv : ∃ g : Nat → Int64, isBits g RL.length := ⟨bitL, fun j hj => ⟨j, hj, rfl⟩, fun q hq => ⟨q, hq, rfl⟩⟩
    refine r_aload_n 1 rfl dX7_fill_65 ?_
    refine r_aload_n 1 rfl dX7_fill_66 ?_
    refine r_getr dX7_fill_67 fl_X7_45 s0 m3 ?_
    refine r_Vf [] dX7_fill_70 lk_X7_86 mb_X4_countNeeded in_X4_countNeeded se_X4_countNeeded rfl (c_X4_countNeeded hM hnp h1 hnr h2) rfl rfl rfl (Nat.le_of_ble_eq_true rfl) (rfl) ?_
    refine r_puti dX7_fill_73 fl_X7_90 s0 rfl rfl ?_
    refine r_aload_n 1 rfl dX7_fill_76 ?_
    refine r_aload_n 1 rfl dX7_fill_77 ?_
    refine r_getr dX7_fill_78 fl_X7_45 s0 m3 ?_
    refine r_Vf [] dX7_fill_81 lk_X7_93 mb_X4_firstLacking in_X4_firstLacking se_X4_firstLacking rfl (c_X4_firstLacking hM hnp (by rw [u2_row _ _ (by omega)]; exact h1) hnr (by rw [u2_row _ _ (by omega)]; exact h2)) rfl rfl rfl (Nat.le_of_ble_eq_true rfl) (rfl) ?_
    refine r_puti dX7_fill_84 fl_X7_96 s0 rfl rfl ?_
    rw [← hc14, ← hc15, ← hW2]
    refine r_aload_n 1 rfl dX7_fill_87 ?_
    refine r_aload_n 1 rfl dX7_fill_88 ?_
    refine r_geti dX7_fill_89 fl_X7_96 s0 ?_
    refine r_bipush (v := (-2)) rfl dX7_fill_92 ?_
    refine r_icmpne (tgt := 111) dX7_fill_94 (by decide) (fun zh94 => ?_) (fun zh94 => ?_)
    · rw [w15] at zh94
      refine r_bipush (v := (-2)) rfl dX7_fill_111 ?_
      refine r_puti dX7_fill_113 fl_X7_102 s0 rfl rfl ?_
      first
        | (obtain ⟨g, hg⟩ := triv
           have hne : ¬ lackO (B 87) PL.length RL.length = none := fun z => zh94 (by rw [hc15, z]; rfl)
           exact hlast _ B (B 87) g (fun _ => 0) (Fx_W hal hF2 (fun b z1 z2 z3 z4 => u2_row _ _ z2) (fun j hj => by rw [u2_ne _ _ (by omega)])) hq hg (by rw [u2_ne _ _ (by omega), w14, hc14]) (by rw [u2_ne _ _ (by omega), w15, hc15]) (fun z => absurd z hne) (fun _ => u2_eq _ _ _ _))
        | (exact hlast _ _ (B 87) g (W2 (a + 5)) (Fx_W hal (Fx_B hal hF2 (fun b z1 z2 => sr_ne _ _ z2)) (fun b z1 z2 z3 z4 => by rw [u2_row _ _ z2, sr_ne _ _ z3]) (fun j hj => by rw [u2_ne _ _ (by omega), sr_ne _ _ (by omega)])) hq hg (by rw [u2_ne _ _ (by omega), sr_ne _ _ (by omega), w14, hc14]) (by rw [u2_ne _ _ (by omega), sr_ne _ _ (by omega), w15, hc15]) (fun _ => ⟨u2_eq _ _ _ _, by rw [u2_row _ _ (by omega), sr_eq]⟩) (fun z => absurd (lackN zh94) z))
    · rw [w15] at zh94
      refine r_aload_n 1 rfl dX7_fill_97 ?_
      refine r_getr dX7_fill_98 fl_X7_45 s0 m3 ?_
      refine r_aload_n 1 rfl dX7_fill_101 ?_
      refine r_getr dX7_fill_102 fl_X7_27 s0 m12 ?_
      refine r_Vg [.ref _] dX7_fill_105 lk_X7_98 mb_X4_leastRow in_X4_leastRow se_X4_leastRow rfl (c_X4_leastRow (ra := a + 5) hM hnp (by rw [w86]; exact h1) hnr (by rw [w86]; exact h2) s5 (by omega)) rfl rfl rfl (Nat.le_of_ble_eq_true rfl) (rfl) (fun r V B2 C hz => ?_)
      obtain ⟨g, hg, rfl, rfl, rfl, rfl⟩ := hz
      show RW X G _ _ _ _ _ _ _ _ _ _ _ _ _ (.int (nI (lrR (B 87) g PL.length RL.length (W2 (a + 5))).1) :: [.ref a])
      refine r_goto (tgt := 113) dX7_fill_108 (by decide) ?_
      refine r_puti dX7_fill_113 fl_X7_102 s0 rfl rfl ?_
      first
        | (obtain ⟨g, hg⟩ := triv
           have hne : ¬ lackO (B 87) PL.length RL.length = none := fun z => zh94 (by rw [hc15, z]; rfl)
           exact hlast _ B (B 87) g (fun _ => 0) (Fx_W hal hF2 (fun b z1 z2 z3 z4 => u2_row _ _ z2) (fun j hj => by rw [u2_ne _ _ (by omega)])) hq hg (by rw [u2_ne _ _ (by omega), w14, hc14]) (by rw [u2_ne _ _ (by omega), w15, hc15]) (fun z => absurd z hne) (fun _ => u2_eq _ _ _ _))
        | (exact hlast _ _ (B 87) g (W2 (a + 5)) (Fx_W hal (Fx_B hal hF2 (fun b z1 z2 => sr_ne _ _ z2)) (fun b z1 z2 z3 z4 => by rw [u2_row _ _ z2, sr_ne _ _ z3]) (fun j hj => by rw [u2_ne _ _ (by omega), sr_ne _ _ (by omega)])) hq hg (by rw [u2_ne _ _ (by omega), sr_ne _ _ (by omega), w14, hc14]) (by rw [u2_ne _ _ (by omega), sr_ne _ _ (by omega), w15, hc15]) (fun _ => ⟨u2_eq _ _ _ _, by rw [u2_row _ _ (by omega), sr_eq]⟩) (fun z => absurd (lackN zh94) z))
  have loop : ∀ p, p ≤ PL.length → ∀ W B, Fx MI ML a RL PL R W B → W 86 1 = nI p → W 86 2 = nI RL.length → (∀ q, q < p → B 87 q = heldL (ptsV ML (PL.getD q 0)) (fun i => ptsV ML (RL.getD i 0)) RL.length) → RW X G RX7 cX7_fill 2 (x_rm 10 0 0) n SH W B MR 0 0 25 [(1, .int (nI p)), (0, .ref a)] [] := by
    refine bwd (fun p hp ih W B hF h1 h2 hq => ?_)
    have hF0 := hF
    obtain ⟨f1, f2, f3, f4, f5, f6, f7, f8, f9, f10, f11⟩ := hF
    have e58 : ∀ x, ptsV B x = ptsV ML x := fun x => by unfold ptsV; rw [f4 58 (by decide) (by decide) (by omega) (by omega)]
    refine r_iload_n 0 rfl dX7_fill_25 ?_
    refine r_aload_n 1 rfl dX7_fill_26 ?_
    refine r_geti dX7_fill_27 fl_X7_65 s0 ?_
    refine r_icmpge (tgt := 65) dX7_fill_30 (by decide) (fun zh30 => ?_) (fun zh30 => ?_)
    · rw [f8] at zh30
      have hpe : p = PL.length := by have := geL (k := PL.length) (by omega) (by omega) zh30; omega
      subst hpe
      exact j65 W B hF0 h1 h2 hq
    · rw [f8] at zh30
      have hlt : p < PL.length := ltL (by omega) zh30
      refine r_aload_n 1 rfl dX7_fill_33 ?_
      refine r_getr dX7_fill_34 fl_X7_45 s0 m3 ?_
      refine r_aload_n 1 rfl dX7_fill_37 ?_
      refine r_aload_n 1 rfl dX7_fill_38 ?_
      refine r_getr dX7_fill_39 fl_X7_41 s0 m2 ?_
      refine r_aload_n 1 rfl dX7_fill_42 ?_
      refine r_getr dX7_fill_43 fl_X7_22 s0 m10 ?_
      refine r_iload_n 0 rfl dX7_fill_46 ?_
      refine r_Sf [.ref _, .int _] dX7_fill_47 lk_X7_68 mb_X10_pick sc_X10_pick rfl (c_X10_pick (N := 240) s4 (by decide)) rfl (Nat.le_of_ble_eq_true rfl) (rfl) ?_
      refine r_Vf [.int _] dX7_fill_50 lk_X7_72 mb_X2_pointsOf in_X2_pointsOf se_X2_pointsOf rfl (c_X2_pointsOf hM) rfl rfl rfl (Nat.le_of_ble_eq_true rfl) (rfl) ?_
      refine r_Vf [.long _] dX7_fill_53 lk_X7_78 mb_X7_heldWithin in_X7_heldWithin se_X7_heldWithin rfl (c_X7_heldWithin hM hA0 hnr f5) s0 rfl rfl (Nat.le_of_ble_eq_true rfl) (rfl) ?_
      refine r_Vn [.long _] dX7_fill_56 lk_X7_82 mb_X4_take in_X4_take se_X4_take rfl (c_X4_take hM (show p < 240 by omega) h1) rfl rfl rfl (Nat.le_of_ble_eq_true rfl) (rfl) ?_
      refine r_iinc (v := (nI (p + 1))) (ls2 := [(1, .int (nI (p + 1))), (0, .ref a)]) 0 dX7_fill_59 rfl (x_inc p) (by decide) rfl ?_
      refine r_goto (tgt := 25) dX7_fill_62 (by decide) ?_
      refine ih hlt _ _ (Fx_W hal (Fx_B hal hF0 (fun b z1 z2 => u2_row _ _ z1)) (fun b z1 z2 z3 z4 => u2_row _ _ z1) (fun j hj => by rw [u2_row _ _ (by omega)])) (u2_eq _ _ _ _) (by rw [u2_ne _ _ (by decide)]; exact h2) (fun q hq2 => ?_)
      rw [pickV_nI _ (show p < 240 by omega) (by decide), f9 p hlt, e58]
      by_cases z : q = p
      · subst z
        rw [u2_eq]
        exact heldL_congr (fun i hi => by rw [e58, f6 i hi])
      · rw [u2_ne _ _ (by omega)]
        exact hq q (by omega)
  have e1 : ∀ g b, b < 56 → shR (sr MI 56 g) a (MI (a + 1)) RL b = MI b := fun g b h => by rw [shR_b (by omega) (by omega), sr_ne _ _ (by omega)]
  have hK8 : R.1 ≤ 8 := by rw [hR]; exact Nat.le_trans (fallR_le _ _ _ _ _ A) hA8
  have e58 : ∀ x, ptsV (sr (sr ML (a + 2) R.2.1) (a + 3) R.2.2) x = ptsV ML x := fun x => by unfold ptsV; rw [sr_ne _ _ (show (58 : Nat) ≠ a + 3 by omega), sr_ne _ _ (show (58 : Nat) ≠ a + 2 by omega)]
  have hfa : ∀ g, shR (sr MI 56 g) a (MI (a + 1)) RL a 0 = nI f := fun g => by rw [← hf]; unfold shR; rw [u2_ne _ _ (by omega), sr_ne _ _ (by omega), sr_ne _ _ (by omega)]
  have hPe : PL.reverse = gpS (sr (sr ML (a + 2) R.2.1) (a + 3) R.2.2) (sr (sr ML (a + 2) R.2.1) (a + 3) R.2.2 49 f) (sr (sr ML (a + 2) R.2.1) (a + 3) R.2.2 (a + 2)) (sr (sr ML (a + 2) R.2.1) (a + 3) R.2.2 (a + 3)) R.1 729 := by
    rw [gpS_congr e58, sr_ne _ _ (show (49 : Nat) ≠ a + 3 by omega), sr_ne _ _ (show (49 : Nat) ≠ a + 2 by omega), sr_eq, sr_ne _ _ (show a + 2 ≠ a + 3 by omega), sr_eq, hPL, List.reverse_reverse]
  have hpr : ∀ W, prM W a (layL (W (a + 4)) PL.reverse.reverse) PL.reverse.length = prM W a (layL (W (a + 4)) PL) PL.length := fun W => by rw [List.reverse_reverse, List.length_reverse]
  subst hRL
  refine r_aload_n 0 rfl dX7_fill_0 ?_
  refine r_Vg [] dX7_fill_1 lk_X7_49 mb_X7_gatherRequired in_X7_gatherRequired se_X7_gatherRequired rfl (c_X7_gatherRequired hM hA0 hA8 hAr hf) s0 rfl rfl (Nat.le_of_ble_eq_true rfl) (rfl) (fun r W B C hz => ?_)
  obtain ⟨hr0, ⟨g, hW⟩, hB, hC⟩ := hz
  subst hr0
  rw [hW, hB, hC]
  refine r_aload_n 0 rfl dX7_fill_4 ?_
  refine r_Vn [] dX7_fill_5 lk_X7_52 mb_X7_gatherFalls in_X7_gatherFalls se_X7_gatherFalls rfl (c_X7_gatherFalls (f := nI f) (R := R) hM hA0 hA8 (by rw [e1 _ 1 (by decide)]; exact hAr) (hfa _) (F := fun i => fallV (MI 54) (MI 55) (nI f) (nI i)) (by rw [e1 _ 54 (by decide), e1 _ 55 (by decide)]) (B := fun i => ptsV ML (MI 51 i)) (by rw [e1 _ 51 (by decide)]) (P := fun i => ptL (MI 53 i)) (by rw [e1 _ 53 (by decide)]) hR) s0 rfl rfl (Nat.le_of_ble_eq_true rfl) (rfl) ?_
  refine r_aload_n 0 rfl dX7_fill_8 ?_
  refine r_Vn [] dX7_fill_9 lk_X7_55 mb_X7_gatherPrimes in_X7_gatherPrimes se_X7_gatherPrimes rfl (c_X7_gatherPrimes (K := R.1) (PL := PL.reverse) hM hA0 hf5 (by first | (unfold fallM; rw [u2_ne _ _ (by omega)]; exact hfa _) | (rw [u2_ne _ _ (by omega)]; exact hfa _)) hK8 (u2_eq _ _ _ _) hPe) s0 rfl rfl (Nat.le_of_ble_eq_true rfl) (rfl) ?_
  rw [hpr]
  refine r_aload_n 0 rfl dX7_fill_12 ?_
  refine r_getr dX7_fill_13 fl_X7_45 s0 m3 ?_
  refine r_aload_n 0 rfl dX7_fill_16 ?_
  refine r_geti dX7_fill_17 fl_X7_58 s0 ?_
  refine r_Vn [.int _] dX7_fill_20 lk_X7_61 mb_X4_forget in_X4_forget se_X4_forget rfl (c_X4_forget) rfl rfl rfl (Nat.le_of_ble_eq_true rfl) (rfl) ?_
  refine r_iconst (v := 0) rfl dX7_fill_23 ?_
  refine r_istore_n (ls2 := [(1, .int 0), (0, .ref a)]) dX7_fill_24 (by decide) rfl ?_
  refine loop 0 (by omega) _ _ ?_ (u2_eq _ _ _ _) (by rw [u2_ne _ _ (by decide), u2_eq, prM_f (by decide)]; rw [u2_ne _ _ (by omega), shR_c]) (fun q hq => absurd hq (Nat.not_lt_zero q))
  have k1 : ∀ b, b ≠ a → b ≠ a + 1 → b ≠ a + 4 → b ≠ 56 → b ≠ 86 → u2 (u2 (prM (fallM (shR (sr MI 56 g) a (MI (a + 1)) (reqL MI (nI f) A)) a R.1) a (layL (fallM (shR (sr MI 56 g) a (MI (a + 1)) (reqL MI (nI f) A)) a R.1 (a + 4)) PL) PL.length) 86 2 (prM (fallM (shR (sr MI 56 g) a (MI (a + 1)) (reqL MI (nI f) A)) a R.1) a (layL (fallM (shR (sr MI 56 g) a (MI (a + 1)) (reqL MI (nI f) A)) a R.1 (a + 4)) PL) PL.length a 6)) 86 1 0 b = MI b := fun b z1 z2 z3 z4 z5 => by
    rw [u2_row _ _ z5, u2_row _ _ z5]
    unfold prM
    rw [u2_row _ _ z1, sr_ne _ _ z3]
    unfold fallM
    rw [u2_row _ _ z1, shR_b z1 z2, sr_ne _ _ z4]
  have k86 : ∀ (W : Nat → Nat → Int32) (x y : Int32) (b : Nat), b ≠ 86 → u2 (u2 W 86 2 x) 86 1 y b = W b := fun W x y b z => by rw [u2_row _ _ z, u2_row _ _ z]
  refine ⟨fun b hb => k1 b (by omega) (by omega) (by omega) (by omega) (by omega), fun b z1 z2 z3 => k1 b (by omega) (by omega) (by omega) (by omega) z2, ?_, fun b z1 z2 z3 z4 => by rw [sr_ne _ _ z4, sr_ne _ _ z3], ?_, fun i hi => ?_, ?_, ?_, fun i hi => ?_, by rw [sr_ne _ _ (by omega), sr_eq], sr_eq _ _ _⟩
  · rw [k86 _ _ _ a (by omega), prM_f (by decide)]; rw [u2_ne _ _ (by omega), hfa, hf]
  · rw [k86 _ _ _ a (by omega), prM_f (by decide)]; rw [u2_ne _ _ (by omega), shR_c]
  · rw [k86 _ _ _ (a + 1) (by omega)]; unfold prM; rw [u2_row _ _ (by omega), sr_ne _ _ (by omega)]; rw [u2_row _ _ (by omega), shR_r, layL_lt hi]
  · rw [k86 _ _ _ a (by omega), prM_f (by decide)]; exact u2_eq _ _ _ _
  · rw [k86 _ _ _ a (by omega), prM_c]
  · rw [k86 _ _ _ (a + 4) (by omega), prM_r, layL_lt hi]
end fill

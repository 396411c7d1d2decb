/-! the reference: shown -/
theorem vaI_cg {W W2 : Mi} (h4 : W2 144 = W 144) (h5 : W2 145 = W 145) (h6 : W2 146 = W 146) (f : Nat) (p : Int32) : vaI W2 f p = vaI W f p := by
  have e : ∀ f, ccN W2 f = ccN W f := fun f => by funext k; unfold ccN; rw [h4, h6]
  unfold vaI rcP
  rw [e, h5]
theorem shS_cg {W W2 : Mi} (h4 : W2 144 = W 144) (h5 : W2 145 = W 145) (h6 : W2 146 = W 146) (p : Int32) : ∀ k, shS W2 p k = shS W p k := by
  intro k
  induction k with
  | zero => rfl
  | succ k ih => rw [shS, shS, ih, vaI_cg h4 h5 h6]
def rsPt (V : Mi) : Int32 := (V 135 (V 124 46).toNatClampNeg ^^^ V 124 47) ||| (V 128 (V 124 46).toNatClampNeg <<< ((4 : Int32) &&& 31))
def rshP (V W : Mi) (a t : Int32) : Prop := if V 124 20 = 0 then a = -1 ∧ t = 1 else if 0 < V 124 27 then a = -1 ∧ t = 5 else t = 0 ∧ ((∃ f, f < 5 ∧ (∀ g, g < f → W 141 g = 1 ∧ inB (W 145 g) 0 5 = true) ∧ W 141 f = 1 ∧ inB (W 145 f) 0 5 = false ∧ a = -2) ∨ ((∀ g, g < 5 → W 141 g = 1 ∧ inB (W 145 g) 0 5 = true) ∧ a = shS W (rsPt V) 5))
section rshown2
variable {X : xG} {n : Nat} {MI : Nat → Nat → Int32} {ML : Nat → Nat → Int64} {MR : Nat → Nat → Option Nat}
set_option maxRecDepth 100000 in
theorem c_X11_shown (hM : x_Lay MR) {A S b w : Nat} (hm : rMc MI A S b) (hc : rCc MI ML A b MI) (hmu : muOK MI) (hw : w < 6) (hwe : MI 124 46 = nI w) : Ct X yX11_shown cX11_shown 3 (some .int) 12 0 0 [.ref 124] n SH MI ML MR n SH (rQ MI ML MR A b (fun W a t => rshP (th MI) W a t)) := by
  obtain ⟨V, hV⟩ : ∃ V, V = th MI := ⟨_, rfl⟩
  have hmV : rMc V A S b := by rw [hV]; exact rMc_th hm
  have hcV : rCc V ML A b V := by rw [hV]; exact rCc_th hc
  have hmuV : muOK V := by rw [hV]; exact hmu
  have hwV : V 124 46 = nI w := by rw [hV]; exact hwe
  rw [← hV]
  have hA := hmV.1
  obtain ⟨p, hp⟩ : ∃ p, p = (V 135 w ^^^ V 124 47) ||| (V 128 w <<< ((4 : Int32) &&& 31)) := ⟨_, rfl⟩
  have hpe : rsPt V = p := by unfold rsPt; rw [hwV, nI_clamp (by omega), hp]
  refine Ct_of (by decide) (Nat.le_of_ble_eq_true rfl) (fun G hG => ?_)
  have loop : ¬ V 124 20 = 0 → ¬ 0 < V 124 27 → ∀ i, i ≤ 5 → ∀ zW zB, (∀ c, c ≠ 148 → zB c = ML c) → rF V zW → rCc V ML A b zW → (∀ g, g < i → zW 141 g = 1 ∧ inB (zW 145 g) 0 5 = true) → RW X G RX11 cX11_shown 3 (x_rm 12 0 0) n SH zW zB MR 0 0 35 [(2, .int (nI i)), (1, .int (shS zW p i)), (0, .ref 124)] [] := by
    intro h20 h27
    refine bwd (fun i hi ih zW zB zB1 zF zC1 hall => ?_)
    refine r_iload_n 0 rfl dX11_shown_35 ?_
    refine r_iconst (v := 5) rfl dX11_shown_36 ?_
    refine r_icmpge (tgt := 96) dX11_shown_37 (by decide) (fun zh37 => ?_) (fun zh37 => ?_)
    · obtain rfl : i = 5 := by have := geL (k := 5) (by decide) (by omega) zh37; omega
      refine r_aload_n 2 rfl dX11_shown_96 ?_
      refine r_iload_n 1 rfl dX11_shown_97 ?_
      refine r_Vf [.int _] dX11_shown_98 lk_X11_267 mb_X11_good in_X11_good se_X11_good rfl (c_X11_good) rfl rfl rfl (Nat.le_of_ble_eq_true rfl) (rfl) ?_
      exact r_iret hG dX11_shown_101 (rq_end (by rw [← hV]; exact zF) zB1 (by rw [← hV]; exact zC1) (by unfold rshP; rw [if_neg h20, if_neg h27, hpe]; exact ⟨rfl, Or.inr ⟨hall, (shS_cg rfl rfl rfl p 5).symm⟩⟩))
    · have hlt : i < 5 := ltL (by omega) zh37
      refine r_aload_n 2 rfl dX11_shown_40 ?_
      refine r_iload_n 0 rfl dX11_shown_41 ?_
      refine r_Vg [.int _] dX11_shown_42 lk_X11_415 mb_X11_hasCover in_X11_hasCover se_X11_hasCover rfl (c_X11_hasCover (f := i) hM (rMc_F hmV zF) ((rCc_F zF zB1).mpr zC1) hlt) rfl rfl rfl (Nat.le_of_ble_eq_true rfl) (rfl) (fun r zW2 zB2 zC hz => ?_)
      obtain ⟨rfl, zB3, zF2, zC2, z1, zK, rfl⟩ := hz
      have zFF := rF_tr zF zF2
      have zCC := (rCc_F zF zB1).mp zC2
      have zBB : ∀ c, c ≠ 148 → zB2 c = ML c := fun c h => (zB3 c h).trans (zB1 c h)
      have hall2 : ∀ g, g < i → zW2 141 g = 1 ∧ inB (zW2 145 g) 0 5 = true := fun g hg => by
        obtain ⟨k1, k2, k3⟩ := zK g (by omega) (by omega)
        rw [k1, k2]
        exact hall g hg
      show RW X G _ _ _ _ _ _ _ _ _ _ _ _ _ [.int (b2 (inB (zW2 145 i) 0 5))]
      refine r_ifne (tgt := 55) dX11_shown_45 (by decide) (fun zh45 => ?_) (fun zh45 => ?_)
      · have hin : inB (zW2 145 i) 0 5 = true := b2n.mp zh45
        obtain ⟨q, hq, hqe⟩ := inB_ex (N := 5) (by decide) hin
        have e46 : zW2 124 46 = nI w := (zFF.2 46 (by decide) (by decide)).trans hwV
        have e47 : zW2 124 47 = V 124 47 := zFF.2 47 (by decide) (by decide)
        have e135 : zW2 135 = V 135 := zFF.1 135 (by decide) (by decide)
        have e128 : zW2 128 = V 128 := zFF.1 128 (by decide) (by decide)
        have hsh : shS zW p i ||| vaI zW2 i p <<< (nI i &&& 31) = shS zW2 p (i + 1) := by
          rw [shS, shS_kp hA zC1 zCC zK p i (Nat.le_refl _) (by omega) hall]
        refine r_iload_n 1 rfl dX11_shown_55 ?_
        refine r_aload_n 2 rfl dX11_shown_56 ?_
        refine r_iload_n 0 rfl dX11_shown_57 ?_
        refine r_aload_n 2 rfl dX11_shown_58 ?_
        refine r_getr dX11_shown_59 fl_X11_53 rfl (hM _ _ _ rfl) ?_
        refine r_aload_n 2 rfl dX11_shown_62 ?_
        refine r_geti dX11_shown_63 fl_X11_291 rfl ?_
        rw [e46]
        refine r_iald dX11_shown_66 rfl (vp_in_nI hw (by decide)) ?_
        rw [nI_clamp (show w < 2 ^ 31 by omega)]
        refine r_aload_n 2 rfl dX11_shown_67 ?_
        refine r_geti dX11_shown_68 fl_X11_294 rfl ?_
        refine r_ixor dX11_shown_71 ?_
        refine r_aload_n 2 rfl dX11_shown_72 ?_
        refine r_aload_n 2 rfl dX11_shown_73 ?_
        refine r_geti dX11_shown_74 fl_X11_291 rfl ?_
        rw [e46]
        refine r_Vf [.int _] dX11_shown_77 lk_X11_310 mb_X11_codeOf in_X11_codeOf se_X11_codeOf rfl (c_X11_codeOf hM hw) rfl rfl rfl (Nat.le_of_ble_eq_true rfl) (rfl) ?_
        refine r_iconst (v := 4) rfl dX11_shown_80 ?_
        refine r_ishl dX11_shown_81 ?_
        refine r_ior dX11_shown_82 ?_
        rw [e135, e47, e128, ← hp]
        refine r_Vf [.int _, .int _] dX11_shown_83 lk_X11_474 mb_X11_valueAt in_X11_valueAt se_X11_valueAt rfl (c_X11_valueAt hM (muOK_F zFF hmuV) hlt (show q ≤ 5 by omega) hqe (rCc_cc hA hlt zCC z1 (show q ≤ 5 by omega) hqe)) rfl rfl rfl (Nat.le_of_ble_eq_true rfl) (rfl) ?_
        refine r_iload_n 0 rfl dX11_shown_86 ?_
        refine r_ishl dX11_shown_87 ?_
        refine r_ior dX11_shown_88 ?_
        rw [hsh]
        refine r_istore_n (ls2 := [(1, .int (shS zW2 p (i + 1))), (2, .int (nI i)), (0, .ref 124)]) dX11_shown_89 (by decide) rfl ?_
        refine r_iinc (v := (nI (i + 1))) (ls2 := [(2, .int (nI (i + 1))), (1, .int (shS zW2 p (i + 1))), (0, .ref 124)]) 1 dX11_shown_90 rfl (x_inc i) (by decide) rfl ?_
        refine r_goto (tgt := 35) dX11_shown_93 (by decide) ?_
        refine r_sub [0, 1, 2] rfl (ih hlt zW2 zB2 zBB zFF zCC (fun g hg => ?_))
        rcases Nat.lt_or_ge g i with z | z
        · exact hall2 g z
        · obtain rfl : g = i := by omega
          exact ⟨z1, hin⟩
      · have hin : inB (zW2 145 i) 0 5 = false := b2z.mp zh45
        refine r_aload_n 2 rfl dX11_shown_48 ?_
        refine r_bipush (v := (-2)) rfl dX11_shown_49 ?_
        refine r_Vf [.int _] dX11_shown_51 lk_X11_267 mb_X11_good in_X11_good se_X11_good rfl (c_X11_good) rfl rfl rfl (Nat.le_of_ble_eq_true rfl) (rfl) ?_
        exact r_iret hG dX11_shown_54 (rq_end (by rw [← hV]; exact zFF) zBB (by rw [← hV]; exact zCC) (by unfold rshP; rw [if_neg h20, if_neg h27]; exact ⟨rfl, Or.inl ⟨i, hlt, hall2, z1, hin, rfl⟩⟩))
  refine r_aload_n 0 rfl dX11_shown_0 ?_
  refine r_iconst (v := 0) rfl dX11_shown_1 ?_
  refine r_puti dX11_shown_2 fl_X11_3 rfl rfl rfl ?_
  refine r_mem hV.symm rfl rfl ?_
  refine r_aload_n 0 rfl dX11_shown_5 ?_
  refine r_geti dX11_shown_6 fl_X11_257 rfl ?_
  refine r_ifne (tgt := 18) dX11_shown_9 (by decide) (fun zh9 => ?_) (fun zh9 => ?_)
  · refine r_aload_n 0 rfl dX11_shown_18 ?_
    refine r_geti dX11_shown_19 fl_X11_273 rfl ?_
    refine r_ifle (tgt := 31) dX11_shown_22 (by decide) (fun zh22 => ?_) (fun zh22 => ?_)
    · refine r_iconst (v := 0) rfl dX11_shown_31 ?_
      refine r_istore_n (ls2 := [(1, .int 0), (0, .ref 124)]) dX11_shown_32 (by decide) rfl ?_
      refine r_iconst (v := 0) rfl dX11_shown_33 ?_
      refine r_istore_n (ls2 := [(2, .int 0), (1, .int 0), (0, .ref 124)]) dX11_shown_34 (by decide) rfl ?_
      exact r_sub [0, 1, 2] rfl (loop zh9 (Int32.not_lt.mpr zh22) 0 (by decide) V ML (fun _ _ => rfl) (rF_rf _) hcV (fun g hg => absurd hg (Nat.not_lt_zero g)))
    · refine r_aload_n 0 rfl dX11_shown_25 ?_
      refine r_iconst (v := 5) rfl dX11_shown_26 ?_
      refine r_Vf [.int _] dX11_shown_27 lk_X11_251 mb_X11_refused in_X11_refused se_X11_refused rfl (c_X11_refused) rfl rfl rfl (Nat.le_of_ble_eq_true rfl) (rfl) ?_
      exact r_iret hG dX11_shown_30 (rq_end (by rw [← hV]; exact rF_rf _) (fun _ _ => rfl) (by rw [← hV]; exact hcV) (by unfold rshP; rw [if_neg zh9, if_pos (Int32.not_le.mp zh22)]; exact ⟨rfl, rfl⟩))
  · refine r_aload_n 0 rfl dX11_shown_12 ?_
    refine r_iconst (v := 1) rfl dX11_shown_13 ?_
    refine r_Vf [.int _] dX11_shown_14 lk_X11_251 mb_X11_refused in_X11_refused se_X11_refused rfl (c_X11_refused) rfl rfl rfl (Nat.le_of_ble_eq_true rfl) (rfl) ?_
    exact r_iret hG dX11_shown_17 (rq_end (by rw [← hV]; exact rF_rf _) (fun _ _ => rfl) (by rw [← hV]; exact hcV) (by unfold rshP; rw [if_pos zh9]; exact ⟨rfl, rfl⟩))
end rshown2

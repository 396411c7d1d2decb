/-! the reference: VALUES, what is BAD; valued 133, gone 134, ins 135, outs 136, bad 124 27, badAt 124 28; ones 137, zeros 138; v 128, stays 130 -/
def laE (MI : Nat → Nat → Int32) (t : Tg) : Nat → Nat → Int32 := fun b i => if b = 133 then t.1 i else if b = 135 then t.2.1 i else if b = 136 then t.2.2.1 i else if b = 134 then t.2.2.2.1 i else if b = 124 ∧ i = 27 then t.2.2.2.2.1 else if b = 124 ∧ i = 28 then t.2.2.2.2.2 else MI b i
def tgR (MI : Nat → Nat → Int32) : Tg := (MI 133, MI 135, MI 136, MI 134, MI 124 27, MI 124 28)
abbrev arR (MI : Nat → Nat → Int32) : Nat → Nat → Int32 := fun i j => MI 128 (7 + 6 * i + j)
theorem laE_id (MI : Nat → Nat → Int32) : laE MI (tgR MI) = MI := by
  funext b i
  simp only [laE, tgR]
  grind
theorem laE_b {MI : Nat → Nat → Int32} (t : Tg) {b : Nat} (h : b ≠ 124) (h2 : b < 133 ∨ 136 < b) : laE MI t b = MI b := by
  funext i
  simp only [laE]
  grind
theorem laE_n {MI : Nat → Nat → Int32} (t : Tg) {j : Nat} (h : j ≠ 27) (h2 : j ≠ 28) : laE MI t 124 j = MI 124 j := by
  simp only [laE]
  grind
theorem inR6 {g : Nat} (h : g < 6) : inR (nI g) 6 = true := inR_nI (N := 6) h (by decide)
/-- the ends of all ARCS are STATES -/
def okA (P : Nat → Nat → Int32) (A S : Nat) : Prop := ∀ i, i < A → (∃ k, k < S ∧ P i 0 = nI k) ∧ ∃ k, k < S ∧ P i 1 = nI k
def ngT (g : Nat → Int32) : Nat → Nat
  | 0 => 0
  | k + 1 => ngT g k + (if g k = 0 then 1 else 0)
theorem ngT_le (g : Nat → Int32) : ∀ k, ngT g k ≤ k
  | 0 => Nat.le_refl _
  | k + 1 => by
    have := ngT_le g k
    rw [ngT]
    split <;> omega
theorem ngT_up {g : Nat → Int32} {i : Nat} (h : g i = 0) : ∀ {k}, i < k → ngT (up g i 1) k + 1 = ngT g k
  | 0, hi => absurd hi (Nat.not_lt_zero _)
  | k + 1, hi => by
    rw [ngT, ngT]
    by_cases e : i = k
    · subst e
      have h2 : ∀ m, m ≤ i → ngT (up g i 1) m = ngT g m := fun m => by
        induction m with
        | zero => intro _; rfl
        | succ m ih => intro hm; rw [ngT, ngT, ih (by omega), up_ne _ _ (by omega)]
      rw [h2 i (Nat.le_refl _), up_eq, if_neg (by decide), if_pos h]
    · have := ngT_up h (k := k) (by omega)
      rw [up_ne _ _ (Ne.symm e)]
      omega
theorem ngT_0 {g : Nat → Int32} : ∀ {k}, ngT g k = 0 → ∀ i, i < k → ¬ g i = 0
  | 0, _, i, hi => absurd hi (Nat.not_lt_zero i)
  | k + 1, h, i, hi => by
    rw [ngT] at h
    by_cases e : i = k
    · subst e
      intro z
      rw [if_pos z] at h
      omega
    · exact ngT_0 (k := k) (by omega) i (by omega)
theorem spT_ge {t : Tg} {w p : Int32} (hw : ¬ w < 0) (h : ¬ t.2.2.2.2.1 < 0) : ¬ (spT t w p).2.2.2.2.1 < 0 := by
  unfold spT
  split
  · exact hw
  · exact h
def binR (f : Nat → Int32) : Prop := ∀ j, j < 6 → f j = 0 ∨ f j = 1
theorem up_id {α : Type} (f : Nat → α) (i : Nat) (x : α) (h : f i = x) : up f i x = f := by
  funext j
  unfold up
  split
  · rename_i e; rw [e, h]
  · rfl
section rlook
variable {X : xG} {n : Nat} {MI : Nat → Nat → Int32} {ML : Nat → Nat → Int64} {MR : Nat → Nat → Option Nat}
set_option maxRecDepth 100000 in
theorem c_X11_arcOf (hM : x_Lay MR) {i j : Nat} (hi : i < 8) (hj : j < 6) : Cf X yX11_arcOf cX11_arcOf 3 (some .int) 1 [.ref 124, .int (nI i), .int (nI j)] n SH MI ML MR (some (.int (arR MI i j))) MI ML MR := by
  refine Ct_of (by decide) (Nat.le_of_ble_eq_true rfl) (fun G hG => ?_)
  have e : (7 : Int32) + 6 * nI i + nI j = nI (7 + 6 * i + j) := by
    have h1 := pk_mul 6 i
    have h2 := nI_add 7 (6 * i)
    have h3 := nI_add (7 + 6 * i) j
    rw [← h2, ← h1] at h3
    exact h3
  refine r_aload_n 0 rfl dX11_arcOf_0 ?_
  refine r_getr dX11_arcOf_1 fl_X11_31 rfl (hM _ _ _ rfl) ?_
  refine r_bipush (v := 7) rfl dX11_arcOf_4 ?_
  refine r_bipush (v := 6) rfl dX11_arcOf_6 ?_
  refine r_iload_n 1 rfl dX11_arcOf_8 ?_
  refine r_imul dX11_arcOf_9 ?_
  refine r_iadd dX11_arcOf_10 ?_
  refine r_iload_n 2 rfl dX11_arcOf_11 ?_
  refine r_iadd dX11_arcOf_12 ?_
  refine r_iald dX11_arcOf_13 rfl (by rw [e]; exact vp_in_nI (show 7 + 6 * i + j < 88 by omega) (by decide)) ?_
  exact r_iret hG dX11_arcOf_14 (⟨by rw [e, nI_clamp (by omega)], rfl, rfl, rfl⟩)
set_option maxRecDepth 100000 in
theorem c_X11_changed (hM : x_Lay MR) {i : Nat} (hi : i < 8) : Cf X yX11_changed cX11_changed 2 (some .int) 2 [.ref 124, .int (nI i)] n SH MI ML MR (some (.int (arR MI i 2 ||| arR MI i 3))) MI ML MR := by
  refine Ct_of (by decide) (Nat.le_of_ble_eq_true rfl) (fun G hG => ?_)
  refine r_aload_n 0 rfl dX11_changed_0 ?_
  refine r_iload_n 1 rfl dX11_changed_1 ?_
  refine r_iconst (v := 2) rfl dX11_changed_2 ?_
  refine r_Vf [.int _, .int _] dX11_changed_3 lk_X11_270 mb_X11_arcOf in_X11_arcOf se_X11_arcOf rfl (c_X11_arcOf (j := 2) hM hi (by decide)) rfl rfl rfl (Nat.le_of_ble_eq_true rfl) (rfl) ?_
  refine r_aload_n 0 rfl dX11_changed_6 ?_
  refine r_iload_n 1 rfl dX11_changed_7 ?_
  refine r_iconst (v := 3) rfl dX11_changed_8 ?_
  refine r_Vf [.int _, .int _] dX11_changed_9 lk_X11_270 mb_X11_arcOf in_X11_arcOf se_X11_arcOf rfl (c_X11_arcOf (j := 3) hM hi (by decide)) rfl rfl rfl (Nat.le_of_ble_eq_true rfl) (rfl) ?_
  refine r_ior dX11_changed_12 ?_
  exact r_iret hG dX11_changed_13 (⟨rfl, rfl, rfl, rfl⟩)
set_option maxRecDepth 100000 in
theorem c_X11_codeOf (hM : x_Lay MR) {k : Nat} (hk : k < 6) : Cf X yX11_codeOf cX11_codeOf 2 (some .int) 1 [.ref 124, .int (nI k)] n SH MI ML MR (some (.int (MI 128 k))) MI ML MR := by
  refine Ct_of (by decide) (Nat.le_of_ble_eq_true rfl) (fun G hG => ?_)
  refine r_aload_n 0 rfl dX11_codeOf_0 ?_
  refine r_getr dX11_codeOf_1 fl_X11_31 rfl (hM _ _ _ rfl) ?_
  refine r_iload_n 1 rfl dX11_codeOf_4 ?_
  refine r_iald dX11_codeOf_5 rfl (vp_in_nI (show k < 88 by omega) (by decide)) ?_
  exact r_iret hG dX11_codeOf_6 (⟨by rw [nI_clamp (by omega)], rfl, rfl, rfl⟩)
set_option maxRecDepth 100000 in
theorem c_X11_pointOf (hM : x_Lay MR) {k : Nat} (hk : k < 6) : Cf X yX11_pointOf cX11_pointOf 2 (some .int) 2 [.ref 124, .int (nI k)] n SH MI ML MR (some (.int (pointV (MI 135) (MI 128) (nI k)))) MI ML MR := by
  refine Ct_of (by decide) (Nat.le_of_ble_eq_true rfl) (fun G hG => ?_)
  refine r_aload_n 0 rfl dX11_pointOf_0 ?_
  refine r_getr dX11_pointOf_1 fl_X11_53 rfl (hM _ _ _ rfl) ?_
  refine r_iload_n 1 rfl dX11_pointOf_4 ?_
  refine r_iald dX11_pointOf_5 rfl (vp_in_nI hk (by decide)) ?_
  refine r_aload_n 0 rfl dX11_pointOf_6 ?_
  refine r_iload_n 1 rfl dX11_pointOf_7 ?_
  refine r_Vf [.int _] dX11_pointOf_8 lk_X11_310 mb_X11_codeOf in_X11_codeOf se_X11_codeOf rfl (c_X11_codeOf hM hk) rfl rfl rfl (Nat.le_of_ble_eq_true rfl) (rfl) ?_
  refine r_iconst (v := 4) rfl dX11_pointOf_11 ?_
  refine r_ishl dX11_pointOf_12 ?_
  refine r_ior dX11_pointOf_13 ?_
  exact r_iret hG dX11_pointOf_14 (⟨by unfold pointV; rw [nI_clamp (by omega), pickV_nI _ hk (by decide), pickV_nI _ hk (by decide)], rfl, rfl, rfl⟩)
set_option maxRecDepth 100000 in
theorem c_X11_wants (hM : x_Lay MR) {k : Nat} (hk : k < 6) : Cf X yX11_wants cX11_wants 2 (some .int) 2 [.ref 124, .int (nI k)] n SH MI ML MR (some (.int (valV (MI 136) (MI 128) (nI k)))) MI ML MR := by
  refine Ct_of (by decide) (Nat.le_of_ble_eq_true rfl) (fun G hG => ?_)
  refine r_aload_n 0 rfl dX11_wants_0 ?_
  refine r_getr dX11_wants_1 fl_X11_56 rfl (hM _ _ _ rfl) ?_
  refine r_iload_n 1 rfl dX11_wants_4 ?_
  refine r_iald dX11_wants_5 rfl (vp_in_nI hk (by decide)) ?_
  refine r_aload_n 0 rfl dX11_wants_6 ?_
  refine r_iload_n 1 rfl dX11_wants_7 ?_
  refine r_Vf [.int _] dX11_wants_8 lk_X11_310 mb_X11_codeOf in_X11_codeOf se_X11_codeOf rfl (c_X11_codeOf hM hk) rfl rfl rfl (Nat.le_of_ble_eq_true rfl) (rfl) ?_
  refine r_iconst (v := 3) rfl dX11_wants_11 ?_
  refine r_ishl dX11_wants_12 ?_
  refine r_ior dX11_wants_13 ?_
  exact r_iret hG dX11_wants_14 (⟨by unfold valV; rw [nI_clamp (by omega), pickV_nI _ hk (by decide), pickV_nI _ hk (by decide)], rfl, rfl, rfl⟩)
set_option maxRecDepth 100000 in
theorem c_X11_spoils {t : Tg} {w p : Int32} (h : ¬ t.2.2.2.2.1 < 0) : Cf X yX11_spoils cX11_spoils 3 none 1 [.ref 124, .int w, .int p] n SH (laE MI t) ML MR none (laE MI (spT t w p)) ML MR := by
  refine Ct_of (by decide) (Nat.le_of_ble_eq_true rfl) (fun G hG => ?_)
  have e : laE MI t 124 27 = t.2.2.2.2.1 := rfl
  refine r_aload_n 0 rfl dX11_spoils_0 ?_
  refine r_geti dX11_spoils_1 fl_X11_273 rfl ?_
  refine r_ifle (tgt := 8) dX11_spoils_4 (by decide) (fun zh4 => ?_) (fun zh4 => ?_)
  · refine r_aload_n 0 rfl dX11_spoils_8 ?_
    refine r_iload_n 1 rfl dX11_spoils_9 ?_
    refine r_puti dX11_spoils_10 fl_X11_273 rfl rfl rfl ?_
    refine r_aload_n 0 rfl dX11_spoils_13 ?_
    refine r_iload_n 2 rfl dX11_spoils_14 ?_
    refine r_puti dX11_spoils_15 fl_X11_276 rfl rfl rfl ?_
    exact r_vret hG dX11_spoils_18 (by
        rw [e] at zh4
        refine ⟨rfl, ?_, rfl, rfl⟩
        first
          | (unfold spT; rw [if_neg (fun z => by rw [z] at zh4; exact absurd (Int32.le_refl 0) zh4)])
          | (unfold spT; rw [if_pos (Int32.le_antisymm zh4 (Int32.not_lt.mp h))]; funext b i; simp only [u2, laE]; grind))
  · exact r_vret hG dX11_spoils_7 (by
        rw [e] at zh4
        refine ⟨rfl, ?_, rfl, rfl⟩
        first
          | (unfold spT; rw [if_neg (fun z => by rw [z] at zh4; exact absurd (Int32.le_refl 0) zh4)])
          | (unfold spT; rw [if_pos (Int32.le_antisymm zh4 (Int32.not_lt.mp h))]; funext b i; simp only [u2, laE]; grind))
theorem s_arcOf (hM : x_Lay MR) {t : Tg} {i j : Nat} (hi : i < 8) (hj : j < 6) : Cf X yX11_arcOf cX11_arcOf 3 (some .int) 1 [.ref 124, .int (nI i), .int (nI j)] n SH (laE MI t) ML MR (some (.int (arR MI i j))) (laE MI t) ML MR := by
  have h := c_X11_arcOf (X := X) (n := n) (MI := laE MI t) (ML := ML) (MR := MR) hM hi hj
  have e : arR (laE MI t) = arR MI := by
    funext i j
    show laE MI t 128 _ = _
    rw [laE_b t (by decide) (by decide)]
  rw [e] at h
  exact h
theorem s_changed (hM : x_Lay MR) {t : Tg} {i : Nat} (hi : i < 8) : Cf X yX11_changed cX11_changed 2 (some .int) 2 [.ref 124, .int (nI i)] n SH (laE MI t) ML MR (some (.int (arR MI i 2 ||| arR MI i 3))) (laE MI t) ML MR := by
  have h := c_X11_changed (X := X) (n := n) (MI := laE MI t) (ML := ML) (MR := MR) hM hi
  have e : arR (laE MI t) = arR MI := by
    funext i j
    show laE MI t 128 _ = _
    rw [laE_b t (by decide) (by decide)]
  rw [e] at h
  exact h
theorem hvT_nI {t : Tg} {k : Nat} (hk : k < 6) : hvT t (nI k) = decide (¬ t.1 k = 0) := by
  unfold hvT
  rw [nI_clamp (by omega)]
  have := inR_nI (i := k) (N := 6) hk (by decide)
  simp [show inR (nI k) 6 = true from this]
theorem s_nextArc (hM : x_Lay MR) {t : Tg} {A S : Nat} (hA : A ≤ 8) (hS : S ≤ 6) (hAr : MI 128 6 = nI A) (hP : okA (arR MI) A S) : Cf X yX11_nextArc cX11_nextArc 2 (some .int) 2 [.ref 124] n SH (laE MI t) ML MR (some (.int (optI (nxO (fun i => arR MI i 0) A t)))) (laE MI t) ML MR := by
  refine Ct_of (by decide) (Nat.le_of_ble_eq_true rfl) (fun G hG => ?_)
  have c6 : (6 : Int32).toNatClampNeg = 6 := rfl
  have hAl : laE MI t 128 6 = nI A := by rw [laE_b t (by decide) (by decide), hAr]
  have e134 : laE MI t 134 = t.2.2.2.1 := rfl
  have e133 : laE MI t 133 = t.1 := rfl
  have loop : ∀ i, i ≤ A → (∀ k, k < i → (decide (t.2.2.2.1 k = 0) && hvT t (arR MI k 0)) = false) → RW X G RX11 cX11_nextArc 2 (x_rm 2 0 0) n SH (laE MI t) ML MR 0 0 2 [(1, .int (nI i)), (0, .ref 124)] [] := by
    refine bwd (fun i hi ih hk => ?_)
    have hnone : i = A → nxO (fun i => arR MI i 0) A t = none := fun e => by
      unfold nxO
      rw [List.find?_eq_none]
      intro k hk2
      rw [hk k (by rw [e]; exact List.mem_range.mp hk2)]
      decide
    have hsome : i < A → (decide (t.2.2.2.1 i = 0) && hvT t (arR MI i 0)) = true → nxO (fun i => arR MI i 0) A t = some i := fun hlt hb => by
      unfold nxO
      rw [List.find?_range_eq_some]
      exact ⟨hb, List.mem_range.mpr hlt, fun k hk2 => by rw [hk k hk2]; rfl⟩
    have hstep : (decide (t.2.2.2.1 i = 0) && hvT t (arR MI i 0)) = false → ∀ k, k < i + 1 → (decide (t.2.2.2.1 k = 0) && hvT t (arR MI k 0)) = false := fun hb k hk2 => by
      rcases Nat.lt_or_ge k i with q | q
      · exact hk k q
      · obtain rfl : k = i := by omega
        exact hb
    refine r_iload_n 0 rfl dX11_nextArc_2 ?_
    refine r_aload_n 1 rfl dX11_nextArc_3 ?_
    refine r_getr dX11_nextArc_4 fl_X11_31 rfl (hM _ _ _ rfl) ?_
    refine r_bipush (v := 6) rfl dX11_nextArc_7 ?_
    refine r_iald dX11_nextArc_9 rfl (vpk (k := 6) (by decide) (by decide) rfl) ?_
    refine r_icmpge (tgt := 44) dX11_nextArc_10 (by decide) (fun zh10 => ?_) (fun zh10 => ?_)
    · rw [c6, hAl] at zh10
      obtain rfl : i = A := by have := geL (k := A) (by omega) (by omega) zh10; omega
      refine r_iconst (v := (-1)) rfl dX11_nextArc_44 ?_
      exact r_iret hG dX11_nextArc_45 (⟨by rw [hnone rfl]; rfl, rfl, rfl, rfl⟩)
    · rw [c6, hAl] at zh10
      have hlt : i < A := ltL (by omega) zh10
      obtain ⟨k, hkS, hke⟩ := (hP i hlt).1
      have hvk : hvT t (arR MI i 0) = decide (¬ t.1 k = 0) := by rw [hke]; exact hvT_nI (by omega)
      refine r_aload_n 1 rfl dX11_nextArc_13 ?_
      refine r_getr dX11_nextArc_14 fl_X11_50 rfl (hM _ _ _ rfl) ?_
      refine r_iload_n 0 rfl dX11_nextArc_17 ?_
      refine r_zald dX11_nextArc_18 rfl (vp_in_nI (show i < 8 by omega) (by decide)) ?_
      refine r_ifne (tgt := 38) dX11_nextArc_19 (by decide) (fun zh19 => ?_) (fun zh19 => ?_)
      · try rw [e134, nI_clamp (by omega)] at zh19
        refine r_iinc (v := (nI (i + 1))) (ls2 := [(1, .int (nI (i + 1))), (0, .ref 124)]) 0 dX11_nextArc_38 rfl (x_inc i) (by decide) rfl ?_
        refine r_goto (tgt := 2) dX11_nextArc_41 (by decide) ?_
        refine ih hlt (hstep ?_)
        first
          | (rw [decide_eq_false zh19]; rfl)
          | (rw [e133, hke, nI_clamp (by omega)] at zh33; rw [hvk, show decide (¬ t.1 k = 0) = false from decide_eq_false (fun z => z zh33)]; exact Bool.and_false _)
      · rw [e134, nI_clamp (by omega)] at zh19
        refine r_aload_n 1 rfl dX11_nextArc_22 ?_
        refine r_getr dX11_nextArc_23 fl_X11_46 rfl (hM _ _ _ rfl) ?_
        refine r_aload_n 1 rfl dX11_nextArc_26 ?_
        refine r_iload_n 0 rfl dX11_nextArc_27 ?_
        refine r_iconst (v := 0) rfl dX11_nextArc_28 ?_
        refine r_Vf [.int _, .int _] dX11_nextArc_29 lk_X11_270 mb_X11_arcOf in_X11_arcOf se_X11_arcOf rfl (s_arcOf (j := 0) hM (show i < 8 by omega) (by decide)) rfl rfl rfl (Nat.le_of_ble_eq_true rfl) (rfl) ?_
        refine r_zald dX11_nextArc_32 rfl (by rw [hke]; exact vp_in_nI (show k < 6 by omega) (by decide)) ?_
        refine r_ifeq (tgt := 38) dX11_nextArc_33 (by decide) (fun zh33 => ?_) (fun zh33 => ?_)
        · try rw [e134, nI_clamp (by omega)] at zh19
          refine r_iinc (v := (nI (i + 1))) (ls2 := [(1, .int (nI (i + 1))), (0, .ref 124)]) 0 dX11_nextArc_38 rfl (x_inc i) (by decide) rfl ?_
          refine r_goto (tgt := 2) dX11_nextArc_41 (by decide) ?_
          refine ih hlt (hstep ?_)
          first
            | (rw [decide_eq_false zh19]; rfl)
            | (rw [e133, hke, nI_clamp (by omega)] at zh33; rw [hvk, show decide (¬ t.1 k = 0) = false from decide_eq_false (fun z => z zh33)]; exact Bool.and_false _)
        · refine r_iload_n 0 rfl dX11_nextArc_36 ?_
          exact r_iret hG dX11_nextArc_37 (⟨by rw [e133, hke, nI_clamp (by omega)] at zh33; rw [hsome hlt (by rw [hvk, decide_eq_true zh19, decide_eq_true zh33]; rfl)]; rfl, rfl, rfl, rfl⟩)
  refine r_iconst (v := 0) rfl dX11_nextArc_0 ?_
  refine r_istore_n (ls2 := [(1, .int 0), (0, .ref 124)]) dX11_nextArc_1 (by decide) rfl ?_
  exact loop 0 (by omega) (fun k hk => absurd hk (Nat.not_lt_zero k))
theorem s_goes (hM : x_Lay MR) {t : Tg} {A S x : Nat} (hA : A ≤ 8) (hS : S ≤ 6) (hP : okA (arR MI) A S) (hx : x < A) (he : ¬ t.2.2.2.2.1 < 0) (hb : binR t.1) : Cf X yX11_goes cX11_goes 6 none 3 [.ref 124, .int (nI x)] n SH (laE MI (gnT t x)) ML MR none (laE MI (folT (arR MI) x t)) ML MR := by
  refine Ct_of (by decide) (Nat.le_of_ble_eq_true rfl) (fun G hG => ?_)
  obtain ⟨⟨f, hf, hfe⟩, ⟨g, hg, hge⟩⟩ := hP x hx
  have hx8 : x < 8 := by omega
  have e133 : laE MI (gnT t x) 133 = t.1 := rfl
  have e135 : laE MI (gnT t x) 135 = t.2.1 := rfl
  have e136 : laE MI (gnT t x) 136 = t.2.2.1 := rfl
  have pf : ∀ h, pickV h 6 (arR MI x 0) = h f := fun h => by rw [hfe]; exact pickV_nI _ (by omega) (by decide)
  have pg : ∀ h, pickV h 6 (arR MI x 1) = h g := fun h => by rw [hge]; exact pickV_nI _ (by omega) (by decide)
  have cf : (nI f).toNatClampNeg = f := nI_clamp (by omega)
  have cg : (nI g).toNatClampNeg = g := nI_clamp (by omega)
  have hv : hvT t (arR MI x 1) = decide (¬ t.1 g = 0) := by rw [hge]; exact hvT_nI (by omega)
  have hst : ∀ (i o : Int32), stT (gnT t x) (arR MI x 1) i o = (up t.1 g 1, up t.2.1 g i, up t.2.2.1 g o, (gnT t x).2.2.2.1, t.2.2.2.2.1, t.2.2.2.2.2) := fun i o => by
    unfold stT
    rw [hge, cg, if_pos (inR6 (show g < 6 by omega))]
    rfl
  have hput : ∀ (i o : Int32), u2 (u2 (u2 (laE MI (gnT t x)) 133 g 1) 135 g i) 136 g o = laE MI (up t.1 g 1, up t.2.1 g i, up t.2.2.1 g o, (gnT t x).2.2.2.1, t.2.2.2.2.1, t.2.2.2.2.2) := fun i o => by
    funext b j
    simp only [u2, laE, gnT, up]
    grind
  refine r_aload_n 0 rfl dX11_goes_0 ?_
  refine r_iload_n 1 rfl dX11_goes_1 ?_
  refine r_iconst (v := 0) rfl dX11_goes_2 ?_
  refine r_Vf [.int _, .int _] dX11_goes_3 lk_X11_270 mb_X11_arcOf in_X11_arcOf se_X11_arcOf rfl (s_arcOf (j := 0) hM hx8 (by decide)) rfl rfl rfl (Nat.le_of_ble_eq_true rfl) (rfl) ?_
  rw [hfe]
  refine r_istore_n (ls2 := [(2, .int (nI f)), (0, .ref 124), (1, .int (nI x))]) dX11_goes_6 (by decide) rfl ?_
  refine r_aload_n 1 rfl dX11_goes_7 ?_
  refine r_iload_n 2 rfl dX11_goes_8 ?_
  refine r_iconst (v := 1) rfl dX11_goes_9 ?_
  refine r_Vf [.int _, .int _] dX11_goes_10 lk_X11_270 mb_X11_arcOf in_X11_arcOf se_X11_arcOf rfl (s_arcOf (j := 1) hM hx8 (by decide)) rfl rfl rfl (Nat.le_of_ble_eq_true rfl) (rfl) ?_
  rw [hge]
  refine r_istore_n (ls2 := [(3, .int (nI g)), (2, .int (nI f)), (0, .ref 124), (1, .int (nI x))]) dX11_goes_13 (by decide) rfl ?_
  refine r_aload_n 2 rfl dX11_goes_14 ?_
  refine r_getr dX11_goes_15 fl_X11_53 rfl (hM _ _ _ rfl) ?_
  refine r_iload_n 1 rfl dX11_goes_18 ?_
  refine r_iald dX11_goes_19 rfl (vp_in_nI (show f < 6 by omega) (by decide)) ?_
  rw [e135, cf]
  refine r_istore (ls2 := [(4, .int (t.2.1 f)), (3, .int (nI g)), (2, .int (nI f)), (0, .ref 124), (1, .int (nI x))]) dX11_goes_20 (by decide) rfl ?_
  refine r_aload_n 3 rfl dX11_goes_22 ?_
  refine r_getr dX11_goes_23 fl_X11_56 rfl (hM _ _ _ rfl) ?_
  refine r_iload_n 2 rfl dX11_goes_26 ?_
  refine r_iald dX11_goes_27 rfl (vp_in_nI (show f < 6 by omega) (by decide)) ?_
  rw [e136, cf]
  refine r_istore (ls2 := [(5, .int (t.2.2.1 f)), (4, .int (t.2.1 f)), (3, .int (nI g)), (2, .int (nI f)), (0, .ref 124), (1, .int (nI x))]) dX11_goes_28 (by decide) rfl ?_
  refine r_iload 1 rfl dX11_goes_30 ?_
  refine r_aload_n 4 rfl dX11_goes_32 ?_
  refine r_iload_n 5 rfl dX11_goes_33 ?_
  refine r_iconst (v := 2) rfl dX11_goes_34 ?_
  refine r_Vf [.int _, .int _] dX11_goes_35 lk_X11_270 mb_X11_arcOf in_X11_arcOf se_X11_arcOf rfl (s_arcOf (j := 2) hM hx8 (by decide)) rfl rfl rfl (Nat.le_of_ble_eq_true rfl) (rfl) ?_
  refine r_iand dX11_goes_38 ?_
  refine r_iload 1 rfl dX11_goes_39 ?_
  refine r_iconst (v := (-1)) rfl dX11_goes_41 ?_
  refine r_ixor dX11_goes_42 ?_
  refine r_aload_n 4 rfl dX11_goes_43 ?_
  refine r_iload_n 5 rfl dX11_goes_44 ?_
  refine r_iconst (v := 3) rfl dX11_goes_45 ?_
  refine r_Vf [.int _, .int _] dX11_goes_46 lk_X11_270 mb_X11_arcOf in_X11_arcOf se_X11_arcOf rfl (s_arcOf (j := 3) hM hx8 (by decide)) rfl rfl rfl (Nat.le_of_ble_eq_true rfl) (rfl) ?_
  refine r_iand dX11_goes_49 ?_
  refine r_ior dX11_goes_50 ?_
  refine r_iload 0 rfl dX11_goes_51 ?_
  refine r_aload_n 4 rfl dX11_goes_53 ?_
  refine r_iload_n 5 rfl dX11_goes_54 ?_
  refine r_iconst (v := 4) rfl dX11_goes_55 ?_
  refine r_Vf [.int _, .int _] dX11_goes_56 lk_X11_270 mb_X11_arcOf in_X11_arcOf se_X11_arcOf rfl (s_arcOf (j := 4) hM hx8 (by decide)) rfl rfl rfl (Nat.le_of_ble_eq_true rfl) (rfl) ?_
  refine r_iand dX11_goes_59 ?_
  refine r_ior dX11_goes_60 ?_
  refine r_iload 0 rfl dX11_goes_61 ?_
  refine r_iconst (v := (-1)) rfl dX11_goes_63 ?_
  refine r_ixor dX11_goes_64 ?_
  refine r_aload_n 4 rfl dX11_goes_65 ?_
  refine r_iload_n 5 rfl dX11_goes_66 ?_
  refine r_iconst (v := 5) rfl dX11_goes_67 ?_
  refine r_Vf [.int _, .int _] dX11_goes_68 lk_X11_270 mb_X11_arcOf in_X11_arcOf se_X11_arcOf rfl (s_arcOf (j := 5) hM hx8 (by decide)) rfl rfl rfl (Nat.le_of_ble_eq_true rfl) (rfl) ?_
  refine r_iand dX11_goes_71 ?_
  refine r_ior dX11_goes_72 ?_
  refine r_ifeq (tgt := 83) dX11_goes_73 (by decide) (fun zh73 => ?_) (fun zh73 => ?_)
  · refine r_iload 1 rfl dX11_goes_83 ?_
    refine r_aload_n 4 rfl dX11_goes_85 ?_
    refine r_iload_n 5 rfl dX11_goes_86 ?_
    refine r_Vf [.int _] dX11_goes_87 lk_X11_307 mb_X11_changed in_X11_changed se_X11_changed rfl (s_changed hM hx8) rfl rfl rfl (Nat.le_of_ble_eq_true rfl) (rfl) ?_
    refine r_ixor dX11_goes_90 ?_
    refine r_istore (ls2 := [(4, .int (t.2.1 f ^^^ (arR MI x 2 ||| arR MI x 3))), (5, .int (t.2.2.1 f)), (3, .int (nI g)), (2, .int (nI f)), (0, .ref 124), (1, .int (nI x))]) dX11_goes_91 (by decide) rfl ?_
    refine r_iload 1 rfl dX11_goes_93 ?_
    refine r_aload_n 4 rfl dX11_goes_95 ?_
    refine r_iload_n 5 rfl dX11_goes_96 ?_
    refine r_iconst (v := 4) rfl dX11_goes_97 ?_
    refine r_Vf [.int _, .int _] dX11_goes_98 lk_X11_270 mb_X11_arcOf in_X11_arcOf se_X11_arcOf rfl (s_arcOf (j := 4) hM hx8 (by decide)) rfl rfl rfl (Nat.le_of_ble_eq_true rfl) (rfl) ?_
    refine r_aload_n 4 rfl dX11_goes_101 ?_
    refine r_iload_n 5 rfl dX11_goes_102 ?_
    refine r_iconst (v := 5) rfl dX11_goes_103 ?_
    refine r_Vf [.int _, .int _] dX11_goes_104 lk_X11_270 mb_X11_arcOf in_X11_arcOf se_X11_arcOf rfl (s_arcOf (j := 5) hM hx8 (by decide)) rfl rfl rfl (Nat.le_of_ble_eq_true rfl) (rfl) ?_
    refine r_ior dX11_goes_107 ?_
    refine r_ixor dX11_goes_108 ?_
    refine r_istore (ls2 := [(5, .int (t.2.2.1 f ^^^ (arR MI x 4 ||| arR MI x 5))), (4, .int (t.2.1 f ^^^ (arR MI x 2 ||| arR MI x 3))), (3, .int (nI g)), (2, .int (nI f)), (0, .ref 124), (1, .int (nI x))]) dX11_goes_109 (by decide) rfl ?_
    refine r_aload_n 4 rfl dX11_goes_111 ?_
    refine r_getr dX11_goes_112 fl_X11_46 rfl (hM _ _ _ rfl) ?_
    refine r_iload_n 2 rfl dX11_goes_115 ?_
    refine r_zald dX11_goes_116 rfl (vp_in_nI (show g < 6 by omega) (by decide)) ?_
    refine r_ifeq (tgt := 149) dX11_goes_117 (by decide) (fun zh117 => ?_) (fun zh117 => ?_)
    · refine r_aload_n 4 rfl dX11_goes_149 ?_
      refine r_getr dX11_goes_150 fl_X11_46 rfl (hM _ _ _ rfl) ?_
      refine r_iload_n 2 rfl dX11_goes_153 ?_
      refine r_iconst (v := 1) rfl dX11_goes_154 ?_
      refine r_zast dX11_goes_155 rfl (vp_in_nI (show g < 6 by omega) (by decide)) ?_
      refine r_aload_n 4 rfl dX11_goes_156 ?_
      refine r_getr dX11_goes_157 fl_X11_53 rfl (hM _ _ _ rfl) ?_
      refine r_iload_n 2 rfl dX11_goes_160 ?_
      refine r_iload 1 rfl dX11_goes_161 ?_
      refine r_iast dX11_goes_163 rfl (vp_in_nI (show g < 6 by omega) (by decide)) ?_
      refine r_aload_n 4 rfl dX11_goes_164 ?_
      refine r_getr dX11_goes_165 fl_X11_56 rfl (hM _ _ _ rfl) ?_
      refine r_iload_n 2 rfl dX11_goes_168 ?_
      refine r_iload 0 rfl dX11_goes_169 ?_
      refine r_iast dX11_goes_171 rfl (vp_in_nI (show g < 6 by omega) (by decide)) ?_
      exact r_vret hG dX11_goes_172 (by
          have vn : vp_nar .boolean 1 = 1 := rfl
          rw [cg, vn, hput]
          refine ⟨rfl, congrArg (laE MI) ?_, rfl, rfl⟩
          unfold folT
          simp only
          rw [e133, cg] at zh117
          first
            | (have zn : ¬ (decide (¬ t.1 g = 0) = true) := fun z => of_decide_eq_true z zh117
               rw [pf, pf, if_pos zh73, hv, if_neg zn, hst])
            | (rw [e135, cg] at zh128
               rw [e136, cg] at zh139
               have h128 := zh128
               rw [pf, pf, if_pos zh73, hv, if_pos (decide_eq_true zh117), pg, pg, if_pos ⟨h128, zh139⟩, up_id _ _ _ h128, up_id _ _ _ zh139, up_id _ _ _ ((hb g (by omega)).resolve_left zh117)]
               rfl))
    · refine r_aload_n 4 rfl dX11_goes_120 ?_
      refine r_getr dX11_goes_121 fl_X11_53 rfl (hM _ _ _ rfl) ?_
      refine r_iload_n 2 rfl dX11_goes_124 ?_
      refine r_iald dX11_goes_125 rfl (vp_in_nI (show g < 6 by omega) (by decide)) ?_
      refine r_iload 1 rfl dX11_goes_126 ?_
      refine r_icmpne (tgt := 142) dX11_goes_128 (by decide) (fun zh128 => ?_) (fun zh128 => ?_)
      · refine r_aload_n 4 rfl dX11_goes_142 ?_
        refine r_iconst (v := 2) rfl dX11_goes_143 ?_
        refine r_iload_n 5 rfl dX11_goes_144 ?_
        refine r_Vn [.int _, .int _] dX11_goes_145 lk_X11_303 mb_X11_spoils in_X11_spoils se_X11_spoils rfl (c_X11_spoils (t := gnT t x) he) rfl rfl rfl (Nat.le_of_ble_eq_true rfl) (rfl) ?_
        exact r_vret hG dX11_goes_148 (by
            refine ⟨rfl, congrArg (laE MI) ?_, rfl, rfl⟩
            unfold folT
            simp only
            rw [e133, cg] at zh117
            rw [pf, pf, if_pos zh73, hv, if_pos (decide_eq_true zh117), pg, pg]
            first
              | (rw [e135, cg] at zh128; rw [if_neg (fun z => zh128 z.1)])
              | (rw [e136, cg] at zh139; rw [if_neg (fun z => zh139 z.2)]))
      · refine r_aload_n 4 rfl dX11_goes_131 ?_
        refine r_getr dX11_goes_132 fl_X11_56 rfl (hM _ _ _ rfl) ?_
        refine r_iload_n 2 rfl dX11_goes_135 ?_
        refine r_iald dX11_goes_136 rfl (vp_in_nI (show g < 6 by omega) (by decide)) ?_
        refine r_iload 0 rfl dX11_goes_137 ?_
        refine r_icmpeq (tgt := 149) dX11_goes_139 (by decide) (fun zh139 => ?_) (fun zh139 => ?_)
        · refine r_aload_n 4 rfl dX11_goes_149 ?_
          refine r_getr dX11_goes_150 fl_X11_46 rfl (hM _ _ _ rfl) ?_
          refine r_iload_n 2 rfl dX11_goes_153 ?_
          refine r_iconst (v := 1) rfl dX11_goes_154 ?_
          refine r_zast dX11_goes_155 rfl (vp_in_nI (show g < 6 by omega) (by decide)) ?_
          refine r_aload_n 4 rfl dX11_goes_156 ?_
          refine r_getr dX11_goes_157 fl_X11_53 rfl (hM _ _ _ rfl) ?_
          refine r_iload_n 2 rfl dX11_goes_160 ?_
          refine r_iload 1 rfl dX11_goes_161 ?_
          refine r_iast dX11_goes_163 rfl (vp_in_nI (show g < 6 by omega) (by decide)) ?_
          refine r_aload_n 4 rfl dX11_goes_164 ?_
          refine r_getr dX11_goes_165 fl_X11_56 rfl (hM _ _ _ rfl) ?_
          refine r_iload_n 2 rfl dX11_goes_168 ?_
          refine r_iload 0 rfl dX11_goes_169 ?_
          refine r_iast dX11_goes_171 rfl (vp_in_nI (show g < 6 by omega) (by decide)) ?_
          exact r_vret hG dX11_goes_172 (by
              have vn : vp_nar .boolean 1 = 1 := rfl
              rw [cg, vn, hput]
              refine ⟨rfl, congrArg (laE MI) ?_, rfl, rfl⟩
              unfold folT
              simp only
              rw [e133, cg] at zh117
              first
                | (have zn : ¬ (decide (¬ t.1 g = 0) = true) := fun z => of_decide_eq_true z zh117
                   rw [pf, pf, if_pos zh73, hv, if_neg zn, hst])
                | (rw [e135, cg] at zh128
                   rw [e136, cg] at zh139
                   have h128 := zh128
                   rw [pf, pf, if_pos zh73, hv, if_pos (decide_eq_true zh117), pg, pg, if_pos ⟨h128, zh139⟩, up_id _ _ _ h128, up_id _ _ _ zh139, up_id _ _ _ ((hb g (by omega)).resolve_left zh117)]
                   rfl))
        · refine r_aload_n 4 rfl dX11_goes_142 ?_
          refine r_iconst (v := 2) rfl dX11_goes_143 ?_
          refine r_iload_n 5 rfl dX11_goes_144 ?_
          refine r_Vn [.int _, .int _] dX11_goes_145 lk_X11_303 mb_X11_spoils in_X11_spoils se_X11_spoils rfl (c_X11_spoils (t := gnT t x) he) rfl rfl rfl (Nat.le_of_ble_eq_true rfl) (rfl) ?_
          exact r_vret hG dX11_goes_148 (by
              refine ⟨rfl, congrArg (laE MI) ?_, rfl, rfl⟩
              unfold folT
              simp only
              rw [e133, cg] at zh117
              rw [pf, pf, if_pos zh73, hv, if_pos (decide_eq_true zh117), pg, pg]
              first
                | (rw [e135, cg] at zh128; rw [if_neg (fun z => zh128 z.1)])
                | (rw [e136, cg] at zh139; rw [if_neg (fun z => zh139 z.2)]))
  · refine r_aload_n 4 rfl dX11_goes_76 ?_
    refine r_iconst (v := 1) rfl dX11_goes_77 ?_
    refine r_iload_n 5 rfl dX11_goes_78 ?_
    refine r_Vn [.int _, .int _] dX11_goes_79 lk_X11_303 mb_X11_spoils in_X11_spoils se_X11_spoils rfl (c_X11_spoils (t := gnT t x) he) rfl rfl rfl (Nat.le_of_ble_eq_true rfl) (rfl) ?_
    exact r_vret hG dX11_goes_82 (by refine ⟨rfl, congrArg (laE MI) ?_, rfl, rfl⟩; unfold folT; simp only; rw [pf, pf, if_neg zh73])
theorem folT_bin {P : Nat → Nat → Int32} {x : Nat} {t : Tg} (hb : binR t.1) : binR (folT P x t).1 := by
  have h1 : ∀ w p, binR (spT (gnT t x) w p).1 := fun w p => by
    unfold spT
    split <;> exact hb
  have h2 : ∀ s i o, binR (stT (gnT t x) s i o).1 := fun s i o => by
    unfold stT
    split
    · intro j hj
      show up t.1 _ 1 j = 0 ∨ up t.1 _ 1 j = 1
      unfold up
      split
      · exact Or.inr rfl
      · exact hb j hj
    · exact hb
  unfold folT
  simp only
  split
  · split
    · split
      · exact hb
      · exact h1 _ _
    · exact h2 _ _ _
  · exact h1 _ _
theorem folT_ge {P : Nat → Nat → Int32} {x : Nat} {t : Tg} (he : ¬ t.2.2.2.2.1 < 0) : ¬ (folT P x t).2.2.2.2.1 < 0 := by
  have h1 : ∀ w p, ¬ w < 0 → ¬ (spT (gnT t x) w p).2.2.2.2.1 < 0 := fun w p hw => spT_ge hw he
  have h2 : ∀ s i o, (stT (gnT t x) s i o).2.2.2.2.1 = t.2.2.2.2.1 := fun s i o => by
    unfold stT
    split <;> rfl
  unfold folT
  simp only
  split
  · split
    · split
      · exact he
      · exact h1 _ _ (by decide)
    · rw [h2]; exact he
  · exact h1 _ _ (by decide)
theorem folT_gone {P : Nat → Nat → Int32} {x : Nat} {t : Tg} : (folT P x t).2.2.2.1 = up t.2.2.2.1 x 1 := by
  have h1 : ∀ w p, (spT (gnT t x) w p).2.2.2.1 = up t.2.2.2.1 x 1 := fun w p => by
    unfold spT
    split <;> rfl
  have h2 : ∀ s i o, (stT (gnT t x) s i o).2.2.2.1 = up t.2.2.2.1 x 1 := fun s i o => by
    unfold stT
    split <;> rfl
  unfold folT
  simp only
  split
  · split
    · split
      · rfl
      · exact h1 _ _
    · exact h2 _ _ _
  · exact h1 _ _
theorem nxO_gone {f : Nat → Int32} {A : Nat} {t : Tg} {i : Nat} (h : nxO f A t = some i) : t.2.2.2.1 i = 0 := by
  have := List.find?_some h
  simp only [Bool.and_eq_true, decide_eq_true_eq] at this
  exact this.1
theorem nxO_no {f : Nat → Int32} {A : Nat} {t : Tg} (h : ngT t.2.2.2.1 A = 0) : nxO f A t = none := by
  unfold nxO
  rw [List.find?_eq_none]
  intro k hk
  have := ngT_0 h k (List.mem_range.mp hk)
  simp [this]
theorem s_goesAlong (hM : x_Lay MR) {t : Tg} {A S b : Nat} (hA : A ≤ 8) (hS : S ≤ 6) (hAr : MI 128 6 = nI A) (hP : okA (arR MI) A S) (hb : b < 6) (hbr : MI 130 1 = nI b) (he : ¬ t.2.2.2.2.1 < 0) : Cf X yX11_goesAlong cX11_goesAlong 3 none 4 [.ref 124] n SH (laE MI t) ML MR none (laE MI (goA (arR MI) A (nI b) (MI 130 2) (MI 130 3) t)) ML MR := by
  refine Ct_of (by decide) (Nat.le_of_ble_eq_true rfl) (fun G hG => ?_)
  have c1 : (1 : Int32).toNatClampNeg = 1 := rfl
  have c2 : (2 : Int32).toNatClampNeg = 2 := rfl
  have c3 : (3 : Int32).toNatClampNeg = 3 := rfl
  have e130 : ∀ t : Tg, laE MI t 130 = MI 130 := fun t => laE_b t (by decide) (by decide)
  have e27 : ∀ t : Tg, laE MI t 124 27 = t.2.2.2.2.1 := fun _ => rfl
  have cb : (nI b).toNatClampNeg = b := nI_clamp (by omega)
  have l3 : ∀ k, ∀ t2 : Tg, ngT t2.2.2.2.1 A ≤ k → ¬ t2.2.2.2.2.1 < 0 → binR t2.1 → goT (arR MI) A k t2 = goA (arR MI) A (nI b) (MI 130 2) (MI 130 3) t → ∀ x, RW X G RX11 cX11_goesAlong 3 (x_rm 4 0 0) n SH (laE MI t2) ML MR 0 0 85 [(2, .int (optI (nxO (fun i => arR MI i 0) A t2))), (1, .int x), (0, .ref 124)] [] := by
    intro k
    induction k with
    | zero =>
      intro t2 hn he2 hb2 hgo x
      rw [nxO_no (Nat.le_zero.mp hn)]
      refine r_iload_n 0 rfl dX11_goesAlong_85 ?_
      refine r_iconst (v := (-1)) rfl dX11_goesAlong_86 ?_
      refine r_icmpeq (tgt := 117) dX11_goesAlong_87 (by decide) (fun zh87 => ?_) (fun zh87 => ?_)
      rotate_left
      · exact absurd zh87 (fun z => z rfl)
      exact r_vret hG dX11_goesAlong_117 (by rw [← hgo]; exact ⟨rfl, rfl, rfl, rfl⟩)
    | succ k ih =>
      intro t2 hn he2 hb2 hgo x
      rw [goT] at hgo
      cases hnx : nxO (fun i => arR MI i 0) A t2 with
      | none =>
        rw [hnx] at hgo
        have hgo2 : t2 = goA (arR MI) A (nI b) (MI 130 2) (MI 130 3) t := by
          split at hgo <;> exact hgo
        refine r_iload_n 0 rfl dX11_goesAlong_85 ?_
        refine r_iconst (v := (-1)) rfl dX11_goesAlong_86 ?_
        refine r_icmpeq (tgt := 117) dX11_goesAlong_87 (by decide) (fun zh87 => ?_) (fun zh87 => ?_)
        rotate_left
        · exact absurd zh87 (fun z => z rfl)
        exact r_vret hG dX11_goesAlong_117 (by rw [← hgo2]; exact ⟨rfl, rfl, rfl, rfl⟩)
      | some i =>
        have hi := nxO_lt hnx
        have hg0 := nxO_gone hnx
        rw [hnx] at hgo
        have gone : u2 (laE MI t2) 134 (nI i).toNatClampNeg (vp_nar .boolean 1) = laE MI (gnT t2 i) := by
          rw [nI_clamp (by omega), show vp_nar .boolean 1 = 1 from rfl]
          funext b j
          simp only [u2, laE, gnT, up]
          grind
        have hng := ngT_up hg0 hi
        refine r_iload_n 0 rfl dX11_goesAlong_85 ?_
        refine r_iconst (v := (-1)) rfl dX11_goesAlong_86 ?_
        refine r_icmpeq (tgt := 117) dX11_goesAlong_87 (by decide) (fun zh87 => ?_) (fun zh87 => ?_)
        · exact absurd zh87 (fun z => absurd (show nI i < 0 by rw [show nI i = -1 from z]; decide) (nI_pos (by omega)))
        refine r_aload_n 2 rfl dX11_goesAlong_90 ?_
        refine r_geti dX11_goesAlong_91 fl_X11_273 rfl ?_
        refine r_ifne (tgt := 117) dX11_goesAlong_94 (by decide) (fun zh94 => ?_) (fun zh94 => ?_)
        · exact r_vret hG dX11_goesAlong_117 (by rw [e27] at zh94; rw [if_neg zh94] at hgo; rw [← hgo]; exact ⟨rfl, rfl, rfl, rfl⟩)
        · rw [e27] at zh94
          rw [if_pos zh94] at hgo
          refine r_aload_n 2 rfl dX11_goesAlong_97 ?_
          refine r_getr dX11_goesAlong_98 fl_X11_50 rfl (hM _ _ _ rfl) ?_
          refine r_iload_n 0 rfl dX11_goesAlong_101 ?_
          refine r_iconst (v := 1) rfl dX11_goesAlong_102 ?_
          refine r_zast dX11_goesAlong_103 rfl (vp_in_nI (show i < 8 by omega) (by decide)) ?_
          refine r_mem gone rfl rfl ?_
          refine r_aload_n 2 rfl dX11_goesAlong_104 ?_
          refine r_iload_n 0 rfl dX11_goesAlong_105 ?_
          refine r_Vn [.int _] dX11_goesAlong_106 lk_X11_300 mb_X11_goes in_X11_goes se_X11_goes rfl (s_goes hM hA hS hP hi he2 hb2) rfl rfl rfl (Nat.le_of_ble_eq_true rfl) (rfl) ?_
          refine r_aload_n 2 rfl dX11_goesAlong_109 ?_
          refine r_Vf [] dX11_goesAlong_110 lk_X11_297 mb_X11_nextArc in_X11_nextArc se_X11_nextArc rfl (s_nextArc hM hA hS hAr hP) rfl rfl rfl (Nat.le_of_ble_eq_true rfl) (rfl) ?_
          refine r_nmi (fun zv113 ze113 => ?_)
          refine r_istore_n (ls2 := [(2, .int zv113), (1, .int x), (0, .ref 124)]) dX11_goesAlong_113 (by decide) rfl ?_
          refine r_goto (tgt := 85) dX11_goesAlong_114 (by decide) ?_
          subst ze113
          exact r_sub [0, 1, 2] rfl (ih _ (by rw [folT_gone]; omega) (folT_ge he2) (folT_bin hb2) hgo x)
  have l2 : ∀ i, i ≤ 8 → RW X G RX11 cX11_goesAlong 3 (x_rm 4 0 0) n SH (laE MI (ini2 (ini1 t 6) i)) ML MR 0 0 23 [(1, .int (nI i)), (0, .ref 124)] [] := by
    refine bwd (fun i hi ih => ?_)
    have hst : u2 (u2 (u2 (laE MI (ini2 (ini1 t 6) 8)) 133 b 1) 135 b (MI 130 2)) 136 b (MI 130 3) = laE MI (stT (ini2 (ini1 t 6) 8) (nI b) (MI 130 2) (MI 130 3)) := by
      unfold stT
      rw [cb, if_pos (inR6 hb)]
      funext b2 j
      simp only [u2, laE, up]
      grind
    refine r_iload_n 0 rfl dX11_goesAlong_23 ?_
    refine r_bipush (v := 8) rfl dX11_goesAlong_24 ?_
    refine r_icmpge (tgt := 42) dX11_goesAlong_26 (by decide) (fun zh26 => ?_) (fun zh26 => ?_)
    · obtain rfl : i = 8 := by have := geL (k := 8) (by decide) (by omega) zh26; omega
      refine r_aload_n 1 rfl dX11_goesAlong_42 ?_
      refine r_getr dX11_goesAlong_43 fl_X11_37 rfl (hM _ _ _ rfl) ?_
      refine r_iconst (v := 1) rfl dX11_goesAlong_46 ?_
      refine r_iald dX11_goesAlong_47 rfl (vpk (k := 1) (by decide) (by decide) rfl) ?_
      rw [c1, e130, hbr]
      refine r_istore_n (ls2 := [(1, .int (nI b)), (0, .ref 124)]) dX11_goesAlong_48 (by decide) rfl ?_
      refine r_aload_n 1 rfl dX11_goesAlong_49 ?_
      refine r_getr dX11_goesAlong_50 fl_X11_46 rfl (hM _ _ _ rfl) ?_
      refine r_iload_n 0 rfl dX11_goesAlong_53 ?_
      refine r_iconst (v := 1) rfl dX11_goesAlong_54 ?_
      refine r_zast dX11_goesAlong_55 rfl (vp_in_nI hb (by decide)) ?_
      refine r_aload_n 1 rfl dX11_goesAlong_56 ?_
      refine r_getr dX11_goesAlong_57 fl_X11_53 rfl (hM _ _ _ rfl) ?_
      refine r_iload_n 0 rfl dX11_goesAlong_60 ?_
      refine r_aload_n 1 rfl dX11_goesAlong_61 ?_
      refine r_getr dX11_goesAlong_62 fl_X11_37 rfl (hM _ _ _ rfl) ?_
      refine r_iconst (v := 2) rfl dX11_goesAlong_65 ?_
      refine r_iald dX11_goesAlong_66 rfl (vpk (k := 2) (by decide) (by decide) rfl) ?_
      refine r_iast dX11_goesAlong_67 rfl (vp_in_nI hb (by decide)) ?_
      refine r_aload_n 1 rfl dX11_goesAlong_68 ?_
      refine r_getr dX11_goesAlong_69 fl_X11_56 rfl (hM _ _ _ rfl) ?_
      refine r_iload_n 0 rfl dX11_goesAlong_72 ?_
      refine r_aload_n 1 rfl dX11_goesAlong_73 ?_
      refine r_getr dX11_goesAlong_74 fl_X11_37 rfl (hM _ _ _ rfl) ?_
      refine r_iconst (v := 3) rfl dX11_goesAlong_77 ?_
      refine r_iald dX11_goesAlong_78 rfl (vpk (k := 3) (by decide) (by decide) rfl) ?_
      refine r_iast dX11_goesAlong_79 rfl (vp_in_nI hb (by decide)) ?_
      refine r_mem (MI2 := laE MI (stT (ini2 (ini1 t 6) 8) (nI b) (MI 130 2) (MI 130 3))) (by rw [cb, c2, c3, show vp_nar .boolean 1 = 1 from rfl, ← hst]; rfl) rfl rfl ?_
      refine r_aload_n 1 rfl dX11_goesAlong_80 ?_
      refine r_Vf [] dX11_goesAlong_81 lk_X11_297 mb_X11_nextArc in_X11_nextArc se_X11_nextArc rfl (s_nextArc hM hA hS hAr hP) rfl rfl rfl (Nat.le_of_ble_eq_true rfl) (rfl) ?_
      refine r_nmi (fun zv84 ze84 => ?_)
      refine r_istore_n (ls2 := [(2, .int zv84), (1, .int (nI b)), (0, .ref 124)]) dX11_goesAlong_84 (by decide) rfl ?_
      subst ze84
      refine r_sub [0, 1, 2] rfl (l3 A _ (ngT_le _ A) ?_ ?_ rfl _)
      · unfold stT; split <;> exact he
      · unfold stT
        rw [if_pos (inR6 hb)]
        intro j hj
        show up (zeroI t.1 6) _ 1 j = 0 ∨ up (zeroI t.1 6) _ 1 j = 1
        unfold up
        split
        · exact Or.inr rfl
        · unfold zeroI
          rw [if_pos hj]
          exact Or.inl rfl
    · have hlt : i < 8 := ltL (by omega) zh26
      refine r_aload_n 1 rfl dX11_goesAlong_29 ?_
      refine r_getr dX11_goesAlong_30 fl_X11_50 rfl (hM _ _ _ rfl) ?_
      refine r_iload_n 0 rfl dX11_goesAlong_33 ?_
      refine r_iconst (v := 0) rfl dX11_goesAlong_34 ?_
      refine r_zast dX11_goesAlong_35 rfl (vp_in_nI hlt (by decide)) ?_
      refine r_iinc (v := (nI (i + 1))) (ls2 := [(1, .int (nI (i + 1))), (0, .ref 124)]) 0 dX11_goesAlong_36 rfl (x_inc i) (by decide) rfl ?_
      refine r_goto (tgt := 23) dX11_goesAlong_39 (by decide) ?_
      refine r_mem ?_ rfl rfl (ih hlt)
      rw [nI_clamp (by omega), show vp_nar .boolean 0 = 0 from rfl]
      funext b j
      simp only [u2, laE, ini1, ini2, zeroI]
      grind
  have l1 : ∀ i, i ≤ 6 → RW X G RX11 cX11_goesAlong 3 (x_rm 4 0 0) n SH (laE MI (ini1 t i)) ML MR 0 0 2 [(1, .int (nI i)), (0, .ref 124)] [] := by
    refine bwd (fun i hi ih => ?_)
    refine r_iload_n 0 rfl dX11_goesAlong_2 ?_
    refine r_bipush (v := 6) rfl dX11_goesAlong_3 ?_
    refine r_icmpge (tgt := 21) dX11_goesAlong_5 (by decide) (fun zh5 => ?_) (fun zh5 => ?_)
    · obtain rfl : i = 6 := by have := geL (k := 6) (by decide) (by omega) zh5; omega
      refine r_iconst (v := 0) rfl dX11_goesAlong_21 ?_
      refine r_istore_n (ls2 := [(1, .int 0), (0, .ref 124)]) dX11_goesAlong_22 (by decide) rfl ?_
      refine r_mem ?_ rfl rfl (l2 0 (by decide))
      funext b j
      simp only [laE, ini2, zeroI]
      grind
    · have hlt : i < 6 := ltL (by omega) zh5
      refine r_aload_n 1 rfl dX11_goesAlong_8 ?_
      refine r_getr dX11_goesAlong_9 fl_X11_46 rfl (hM _ _ _ rfl) ?_
      refine r_iload_n 0 rfl dX11_goesAlong_12 ?_
      refine r_iconst (v := 0) rfl dX11_goesAlong_13 ?_
      refine r_zast dX11_goesAlong_14 rfl (vp_in_nI hlt (by decide)) ?_
      refine r_iinc (v := (nI (i + 1))) (ls2 := [(1, .int (nI (i + 1))), (0, .ref 124)]) 0 dX11_goesAlong_15 rfl (x_inc i) (by decide) rfl ?_
      refine r_goto (tgt := 2) dX11_goesAlong_18 (by decide) ?_
      refine r_mem ?_ rfl rfl (ih hlt)
      rw [nI_clamp (by omega), show vp_nar .boolean 0 = 0 from rfl]
      funext b j
      simp only [u2, laE, ini1, zeroI]
      grind
  refine r_iconst (v := 0) rfl dX11_goesAlong_0 ?_
  refine r_istore_n (ls2 := [(1, .int 0), (0, .ref 124)]) dX11_goesAlong_1 (by decide) rfl ?_
  refine r_mem ?_ rfl rfl (l1 0 (by decide))
  funext b j
  simp only [laE, ini1, zeroI]
  grind
theorem vlT_ge : ∀ k (t : Tg), ¬ t.2.2.2.2.1 < 0 → ¬ (vlT k t).2.2.2.2.1 < 0
  | 0, _, h => h
  | k + 1, t, h => by
    have := vlT_ge k t h
    rw [vlT]
    split
    · exact this
    · exact spT_ge (by decide) this
theorem inT1_ge {P : Nat → Nat → Int32} {i : Nat} : ∀ k (t : Tg), ¬ t.2.2.2.2.1 < 0 → ¬ (inT1 P i k t).2.2.2.2.1 < 0
  | 0, _, h => h
  | k + 1, t, h => by
    have := inT1_ge (P := P) (i := i) k t h
    rw [inT1]
    split
    · exact spT_ge (by decide) this
    · exact this
theorem inT_ge {P : Nat → Nat → Int32} {A : Nat} : ∀ k (t : Tg), ¬ t.2.2.2.2.1 < 0 → ¬ (inT P A k t).2.2.2.2.1 < 0
  | 0, _, h => h
  | k + 1, t, h => inT1_ge A _ (inT_ge k t h)
theorem s_looksAtStates (hM : x_Lay MR) {t : Tg} {S : Nat} (hS : S ≤ 6) (hSr : MI 130 0 = nI S) (he : ¬ t.2.2.2.2.1 < 0) : Cf X yX11_looksAtStates cX11_looksAtStates 2 none 2 [.ref 124] n SH (laE MI t) ML MR none (laE MI (vlT S t)) ML MR := by
  refine Ct_of (by decide) (Nat.le_of_ble_eq_true rfl) (fun G hG => ?_)
  have c0 : (0 : Int32).toNatClampNeg = 0 := rfl
  have hSl : ∀ t : Tg, laE MI t 130 0 = nI S := fun t => by rw [laE_b t (by decide) (by decide), hSr]
  have e133 : ∀ t : Tg, laE MI t 133 = t.1 := fun _ => rfl
  have loop : ∀ i, i ≤ S → RW X G RX11 cX11_looksAtStates 2 (x_rm 2 0 0) n SH (laE MI (vlT i t)) ML MR 0 0 2 [(1, .int (nI i)), (0, .ref 124)] [] := by
    refine bwd (fun i hi ih => ?_)
    have hv : i < S → hvT (vlT i t) (nI i) = decide (¬ (vlT i t).1 i = 0) := fun h => hvT_nI (by omega)
    refine r_iload_n 0 rfl dX11_looksAtStates_2 ?_
    refine r_aload_n 1 rfl dX11_looksAtStates_3 ?_
    refine r_getr dX11_looksAtStates_4 fl_X11_37 rfl (hM _ _ _ rfl) ?_
    refine r_iconst (v := 0) rfl dX11_looksAtStates_7 ?_
    refine r_iald dX11_looksAtStates_8 rfl (vpk (k := 0) (by decide) (by decide) rfl) ?_
    refine r_icmpge (tgt := 33) dX11_looksAtStates_9 (by decide) (fun zh9 => ?_) (fun zh9 => ?_)
    · rw [c0, hSl] at zh9
      obtain rfl : i = S := by have := geL (k := S) (by omega) (by omega) zh9; omega
      exact r_vret hG dX11_looksAtStates_33 (⟨rfl, rfl, rfl, rfl⟩)
    · rw [c0, hSl] at zh9
      have hlt : i < S := ltL (by omega) zh9
      refine r_aload_n 1 rfl dX11_looksAtStates_12 ?_
      refine r_getr dX11_looksAtStates_13 fl_X11_46 rfl (hM _ _ _ rfl) ?_
      refine r_iload_n 0 rfl dX11_looksAtStates_16 ?_
      refine r_zald dX11_looksAtStates_17 rfl (vp_in_nI (show i < 6 by omega) (by decide)) ?_
      refine r_ifne (tgt := 27) dX11_looksAtStates_18 (by decide) (fun zh18 => ?_) (fun zh18 => ?_)
      · refine r_iinc (v := (nI (i + 1))) (ls2 := [(1, .int (nI (i + 1))), (0, .ref 124)]) 0 dX11_looksAtStates_27 rfl (x_inc i) (by decide) rfl ?_
        refine r_goto (tgt := 2) dX11_looksAtStates_30 (by decide) ?_
        rw [e133, nI_clamp (by omega)] at zh18
        have q := ih hlt
        rw [vlT, hv hlt] at q
        first
          | (rw [if_pos (decide_eq_true zh18)] at q; exact q)
          | (have zn : ¬ (decide (¬ (vlT i t).1 i = 0) = true) := fun z => of_decide_eq_true z zh18
             rw [if_neg zn] at q; exact q)
      · refine r_aload_n 1 rfl dX11_looksAtStates_21 ?_
        refine r_iconst (v := 3) rfl dX11_looksAtStates_22 ?_
        refine r_iload_n 0 rfl dX11_looksAtStates_23 ?_
        refine r_Vn [.int _, .int _] dX11_looksAtStates_24 lk_X11_303 mb_X11_spoils in_X11_spoils se_X11_spoils rfl (c_X11_spoils (vlT_ge _ _ he)) rfl rfl rfl (Nat.le_of_ble_eq_true rfl) (rfl) ?_
        refine r_iinc (v := (nI (i + 1))) (ls2 := [(1, .int (nI (i + 1))), (0, .ref 124)]) 0 dX11_looksAtStates_27 rfl (x_inc i) (by decide) rfl ?_
        refine r_goto (tgt := 2) dX11_looksAtStates_30 (by decide) ?_
        rw [e133, nI_clamp (by omega)] at zh18
        have q := ih hlt
        rw [vlT, hv hlt] at q
        first
          | (rw [if_pos (decide_eq_true zh18)] at q; exact q)
          | (have zn : ¬ (decide (¬ (vlT i t).1 i = 0) = true) := fun z => of_decide_eq_true z zh18
             rw [if_neg zn] at q; exact q)
  refine r_iconst (v := 0) rfl dX11_looksAtStates_0 ?_
  refine r_istore_n (ls2 := [(1, .int 0), (0, .ref 124)]) dX11_looksAtStates_1 (by decide) rfl ?_
  exact loop 0 (by omega)
theorem s_looksAtBursts (hM : x_Lay MR) {t : Tg} {A : Nat} (hA : A ≤ 8) (hAr : MI 128 6 = nI A) (he : ¬ t.2.2.2.2.1 < 0) : Cf X yX11_looksAtBursts cX11_looksAtBursts 3 none 3 [.ref 124] n SH (laE MI t) ML MR none (laE MI (inT (arR MI) A A t)) ML MR := by
  refine Ct_of (by decide) (Nat.le_of_ble_eq_true rfl) (fun G hG => ?_)
  have c6 : (6 : Int32).toNatClampNeg = 6 := rfl
  have hAl : ∀ t : Tg, laE MI t 128 6 = nI A := fun t => by rw [laE_b t (by decide) (by decide), hAr]
  have loop : ∀ i, i ≤ A → RW X G RX11 cX11_looksAtBursts 3 (x_rm 3 0 0) n SH (laE MI (inT (arR MI) A i t)) ML MR 0 0 2 [(1, .int (nI i)), (0, .ref 124)] [] := by
    refine bwd (fun i hi ih => ?_)
    have inner : i < A → ∀ k, k ≤ A → RW X G RX11 cX11_looksAtBursts 3 (x_rm 3 0 0) n SH (laE MI (inT1 (arR MI) i k (inT (arR MI) A i t))) ML MR 0 0 15 [(2, .int (nI k)), (1, .int (nI i)), (0, .ref 124)] [] := by
      intro hlt
      refine bwd (fun k hk ihk => ?_)
      refine r_iload_n 0 rfl dX11_looksAtBursts_15 ?_
      refine r_aload_n 2 rfl dX11_looksAtBursts_16 ?_
      refine r_getr dX11_looksAtBursts_17 fl_X11_31 rfl (hM _ _ _ rfl) ?_
      refine r_bipush (v := 6) rfl dX11_looksAtBursts_20 ?_
      refine r_iald dX11_looksAtBursts_22 rfl (vpk (k := 6) (by decide) (by decide) rfl) ?_
      refine r_icmpge (tgt := 74) dX11_looksAtBursts_23 (by decide) (fun zh23 => ?_) (fun zh23 => ?_)
      · rw [c6, hAl] at zh23
        obtain rfl : k = A := by have := geL (k := A) (by omega) (by omega) zh23; omega
        refine r_iinc (v := (nI (i + 1))) (ls2 := [(1, .int (nI (i + 1))), (2, .int (nI k)), (0, .ref 124)]) 1 dX11_looksAtBursts_74 rfl (x_inc i) (by decide) rfl ?_
        refine r_goto (tgt := 2) dX11_looksAtBursts_77 (by decide) ?_
        exact r_sub [0, 2] rfl (ih hlt)
      · rw [c6, hAl] at zh23
        have hkl : k < A := ltL (by omega) zh23
        have q := ihk hkl
        rw [inT1] at q
        refine r_iload_n 0 rfl dX11_looksAtBursts_26 ?_
        refine r_iload_n 1 rfl dX11_looksAtBursts_27 ?_
        refine r_icmpeq (tgt := 68) dX11_looksAtBursts_28 (by decide) (fun zh28 => ?_) (fun zh28 => ?_)
        · refine r_iinc (v := (nI (k + 1))) (ls2 := [(2, .int (nI (k + 1))), (1, .int (nI i)), (0, .ref 124)]) 0 dX11_looksAtBursts_68 rfl (x_inc k) (by decide) rfl ?_
          refine r_goto (tgt := 15) dX11_looksAtBursts_71 (by decide) ?_
          have hki : k = i ↔ nI k = nI i := (nI_eq (by omega) (by omega)).symm
          first
            | (have zc : (¬ k = i ∧ arR MI i 0 = arR MI k 0 ∧ (arR MI i 2 ||| arR MI i 3) &&& ((arR MI k 2 ||| arR MI k 3) ^^^ -1) = 0) := ⟨fun z => zh28 (hki.mp z), zh43.symm, zh59⟩
               rw [if_pos zc] at q; exact r_sub [0, 1, 2] rfl q)
            | (have zc : ¬ (¬ k = i ∧ arR MI i 0 = arR MI k 0 ∧ (arR MI i 2 ||| arR MI i 3) &&& ((arR MI k 2 ||| arR MI k 3) ^^^ -1) = 0) := fun z => zh59 z.2.2
               rw [if_neg zc] at q; exact r_sub [0, 1, 2] rfl q)
            | (have zc : ¬ (¬ k = i ∧ arR MI i 0 = arR MI k 0 ∧ (arR MI i 2 ||| arR MI i 3) &&& ((arR MI k 2 ||| arR MI k 3) ^^^ -1) = 0) := fun z => zh43 z.2.1.symm
               rw [if_neg zc] at q; exact r_sub [0, 1, 2] rfl q)
            | (have zc : ¬ (¬ k = i ∧ arR MI i 0 = arR MI k 0 ∧ (arR MI i 2 ||| arR MI i 3) &&& ((arR MI k 2 ||| arR MI k 3) ^^^ -1) = 0) := fun z => z.1 (hki.mpr zh28)
               rw [if_neg zc] at q; exact r_sub [0, 1, 2] rfl q)
        · refine r_aload_n 2 rfl dX11_looksAtBursts_31 ?_
          refine r_iload_n 0 rfl dX11_looksAtBursts_32 ?_
          refine r_iconst (v := 0) rfl dX11_looksAtBursts_33 ?_
          refine r_Vf [.int _, .int _] dX11_looksAtBursts_34 lk_X11_270 mb_X11_arcOf in_X11_arcOf se_X11_arcOf rfl (s_arcOf (j := 0) hM (show k < 8 by omega) (by decide)) rfl rfl rfl (Nat.le_of_ble_eq_true rfl) (rfl) ?_
          refine r_aload_n 2 rfl dX11_looksAtBursts_37 ?_
          refine r_iload_n 1 rfl dX11_looksAtBursts_38 ?_
          refine r_iconst (v := 0) rfl dX11_looksAtBursts_39 ?_
          refine r_Vf [.int _, .int _] dX11_looksAtBursts_40 lk_X11_270 mb_X11_arcOf in_X11_arcOf se_X11_arcOf rfl (s_arcOf (j := 0) hM (show i < 8 by omega) (by decide)) rfl rfl rfl (Nat.le_of_ble_eq_true rfl) (rfl) ?_
          refine r_icmpne (tgt := 68) dX11_looksAtBursts_43 (by decide) (fun zh43 => ?_) (fun zh43 => ?_)
          · refine r_iinc (v := (nI (k + 1))) (ls2 := [(2, .int (nI (k + 1))), (1, .int (nI i)), (0, .ref 124)]) 0 dX11_looksAtBursts_68 rfl (x_inc k) (by decide) rfl ?_
            refine r_goto (tgt := 15) dX11_looksAtBursts_71 (by decide) ?_
            have hki : k = i ↔ nI k = nI i := (nI_eq (by omega) (by omega)).symm
            first
              | (have zc : (¬ k = i ∧ arR MI i 0 = arR MI k 0 ∧ (arR MI i 2 ||| arR MI i 3) &&& ((arR MI k 2 ||| arR MI k 3) ^^^ -1) = 0) := ⟨fun z => zh28 (hki.mp z), zh43.symm, zh59⟩
                 rw [if_pos zc] at q; exact r_sub [0, 1, 2] rfl q)
              | (have zc : ¬ (¬ k = i ∧ arR MI i 0 = arR MI k 0 ∧ (arR MI i 2 ||| arR MI i 3) &&& ((arR MI k 2 ||| arR MI k 3) ^^^ -1) = 0) := fun z => zh59 z.2.2
                 rw [if_neg zc] at q; exact r_sub [0, 1, 2] rfl q)
              | (have zc : ¬ (¬ k = i ∧ arR MI i 0 = arR MI k 0 ∧ (arR MI i 2 ||| arR MI i 3) &&& ((arR MI k 2 ||| arR MI k 3) ^^^ -1) = 0) := fun z => zh43 z.2.1.symm
                 rw [if_neg zc] at q; exact r_sub [0, 1, 2] rfl q)
              | (have zc : ¬ (¬ k = i ∧ arR MI i 0 = arR MI k 0 ∧ (arR MI i 2 ||| arR MI i 3) &&& ((arR MI k 2 ||| arR MI k 3) ^^^ -1) = 0) := fun z => z.1 (hki.mpr zh28)
                 rw [if_neg zc] at q; exact r_sub [0, 1, 2] rfl q)
          · refine r_aload_n 2 rfl dX11_looksAtBursts_46 ?_
            refine r_iload_n 1 rfl dX11_looksAtBursts_47 ?_
            refine r_Vf [.int _] dX11_looksAtBursts_48 lk_X11_307 mb_X11_changed in_X11_changed se_X11_changed rfl (s_changed hM (show i < 8 by omega)) rfl rfl rfl (Nat.le_of_ble_eq_true rfl) (rfl) ?_
            refine r_aload_n 2 rfl dX11_looksAtBursts_51 ?_
            refine r_iload_n 0 rfl dX11_looksAtBursts_52 ?_
            refine r_Vf [.int _] dX11_looksAtBursts_53 lk_X11_307 mb_X11_changed in_X11_changed se_X11_changed rfl (s_changed hM (show k < 8 by omega)) rfl rfl rfl (Nat.le_of_ble_eq_true rfl) (rfl) ?_
            refine r_iconst (v := (-1)) rfl dX11_looksAtBursts_56 ?_
            refine r_ixor dX11_looksAtBursts_57 ?_
            refine r_iand dX11_looksAtBursts_58 ?_
            refine r_ifne (tgt := 68) dX11_looksAtBursts_59 (by decide) (fun zh59 => ?_) (fun zh59 => ?_)
            · refine r_iinc (v := (nI (k + 1))) (ls2 := [(2, .int (nI (k + 1))), (1, .int (nI i)), (0, .ref 124)]) 0 dX11_looksAtBursts_68 rfl (x_inc k) (by decide) rfl ?_
              refine r_goto (tgt := 15) dX11_looksAtBursts_71 (by decide) ?_
              have hki : k = i ↔ nI k = nI i := (nI_eq (by omega) (by omega)).symm
              first
                | (have zc : (¬ k = i ∧ arR MI i 0 = arR MI k 0 ∧ (arR MI i 2 ||| arR MI i 3) &&& ((arR MI k 2 ||| arR MI k 3) ^^^ -1) = 0) := ⟨fun z => zh28 (hki.mp z), zh43.symm, zh59⟩
                   rw [if_pos zc] at q; exact r_sub [0, 1, 2] rfl q)
                | (have zc : ¬ (¬ k = i ∧ arR MI i 0 = arR MI k 0 ∧ (arR MI i 2 ||| arR MI i 3) &&& ((arR MI k 2 ||| arR MI k 3) ^^^ -1) = 0) := fun z => zh59 z.2.2
                   rw [if_neg zc] at q; exact r_sub [0, 1, 2] rfl q)
                | (have zc : ¬ (¬ k = i ∧ arR MI i 0 = arR MI k 0 ∧ (arR MI i 2 ||| arR MI i 3) &&& ((arR MI k 2 ||| arR MI k 3) ^^^ -1) = 0) := fun z => zh43 z.2.1.symm
                   rw [if_neg zc] at q; exact r_sub [0, 1, 2] rfl q)
                | (have zc : ¬ (¬ k = i ∧ arR MI i 0 = arR MI k 0 ∧ (arR MI i 2 ||| arR MI i 3) &&& ((arR MI k 2 ||| arR MI k 3) ^^^ -1) = 0) := fun z => z.1 (hki.mpr zh28)
                   rw [if_neg zc] at q; exact r_sub [0, 1, 2] rfl q)
            · refine r_aload_n 2 rfl dX11_looksAtBursts_62 ?_
              refine r_iconst (v := 4) rfl dX11_looksAtBursts_63 ?_
              refine r_iload_n 1 rfl dX11_looksAtBursts_64 ?_
              refine r_Vn [.int _, .int _] dX11_looksAtBursts_65 lk_X11_303 mb_X11_spoils in_X11_spoils se_X11_spoils rfl (c_X11_spoils (inT1_ge _ _ (inT_ge _ _ he))) rfl rfl rfl (Nat.le_of_ble_eq_true rfl) (rfl) ?_
              refine r_iinc (v := (nI (k + 1))) (ls2 := [(2, .int (nI (k + 1))), (1, .int (nI i)), (0, .ref 124)]) 0 dX11_looksAtBursts_68 rfl (x_inc k) (by decide) rfl ?_
              refine r_goto (tgt := 15) dX11_looksAtBursts_71 (by decide) ?_
              have hki : k = i ↔ nI k = nI i := (nI_eq (by omega) (by omega)).symm
              first
                | (have zc : (¬ k = i ∧ arR MI i 0 = arR MI k 0 ∧ (arR MI i 2 ||| arR MI i 3) &&& ((arR MI k 2 ||| arR MI k 3) ^^^ -1) = 0) := ⟨fun z => zh28 (hki.mp z), zh43.symm, zh59⟩
                   rw [if_pos zc] at q; exact r_sub [0, 1, 2] rfl q)
                | (have zc : ¬ (¬ k = i ∧ arR MI i 0 = arR MI k 0 ∧ (arR MI i 2 ||| arR MI i 3) &&& ((arR MI k 2 ||| arR MI k 3) ^^^ -1) = 0) := fun z => zh59 z.2.2
                   rw [if_neg zc] at q; exact r_sub [0, 1, 2] rfl q)
                | (have zc : ¬ (¬ k = i ∧ arR MI i 0 = arR MI k 0 ∧ (arR MI i 2 ||| arR MI i 3) &&& ((arR MI k 2 ||| arR MI k 3) ^^^ -1) = 0) := fun z => zh43 z.2.1.symm
                   rw [if_neg zc] at q; exact r_sub [0, 1, 2] rfl q)
                | (have zc : ¬ (¬ k = i ∧ arR MI i 0 = arR MI k 0 ∧ (arR MI i 2 ||| arR MI i 3) &&& ((arR MI k 2 ||| arR MI k 3) ^^^ -1) = 0) := fun z => z.1 (hki.mpr zh28)
                   rw [if_neg zc] at q; exact r_sub [0, 1, 2] rfl q)
    refine r_iload_n 0 rfl dX11_looksAtBursts_2 ?_
    refine r_aload_n 1 rfl dX11_looksAtBursts_3 ?_
    refine r_getr dX11_looksAtBursts_4 fl_X11_31 rfl (hM _ _ _ rfl) ?_
    refine r_bipush (v := 6) rfl dX11_looksAtBursts_7 ?_
    refine r_iald dX11_looksAtBursts_9 rfl (vpk (k := 6) (by decide) (by decide) rfl) ?_
    refine r_icmpge (tgt := 80) dX11_looksAtBursts_10 (by decide) (fun zh10 => ?_) (fun zh10 => ?_)
    · rw [c6, hAl] at zh10
      obtain rfl : i = A := by have := geL (k := A) (by omega) (by omega) zh10; omega
      exact r_vret hG dX11_looksAtBursts_80 (⟨rfl, rfl, rfl, rfl⟩)
    · rw [c6, hAl] at zh10
      have hlt : i < A := ltL (by omega) zh10
      refine r_iconst (v := 0) rfl dX11_looksAtBursts_13 ?_
      refine r_istore_n (ls2 := [(2, .int 0), (1, .int (nI i)), (0, .ref 124)]) dX11_looksAtBursts_14 (by decide) rfl ?_
      exact r_sub [0, 1, 2] rfl (inner hlt 0 (by omega))
  refine r_iconst (v := 0) rfl dX11_looksAtBursts_0 ?_
  refine r_istore_n (ls2 := [(1, .int 0), (0, .ref 124)]) dX11_looksAtBursts_1 (by decide) rfl ?_
  exact loop 0 (by omega)
end rlook

/-! Study: VALUES and what is BAD, as a tuple: valued, inputs, outputs, gone, evil, its place -/
abbrev Tg : Type := (Nat → Int32) × (Nat → Int32) × (Nat → Int32) × (Nat → Int32) × Int32 × Int32
def tgC (MI : Nat → Nat → Int32) : Tg := (MI 46, MI 44, MI 45, MI 47, MI 43 6, MI 43 7)
def laC (MI : Nat → Nat → Int32) (t : Tg) : Nat → Nat → Int32 := fun b i => if b = 46 then t.1 i else if b = 44 then t.2.1 i else if b = 45 then t.2.2.1 i else if b = 47 then t.2.2.2.1 i else if b = 43 ∧ i = 6 then t.2.2.2.2.1 else if b = 43 ∧ i = 7 then t.2.2.2.2.2 else MI b i
theorem laC_id (MI : Nat → Nat → Int32) : laC MI (tgC MI) = MI := by
  funext b i
  simp only [laC, tgC]
  grind
theorem laC_b {MI : Nat → Nat → Int32} (t : Tg) {b : Nat} (h : b < 43 ∨ 47 < b) : laC MI t b = MI b := by
  funext i
  simp only [laC]
  grind
theorem laC_p {MI : Nat → Nat → Int32} (t : Tg) (x y : Int32) : partV (laC MI t) 1 x y = partV MI 1 x y := by
  unfold partV
  split
  · rename_i h
    have hx := inR_t.mp h.1
    have := clampLt (N := 8) (by decide) hx.1 hx.2
    rw [laC_b t (by omega)]
  · rfl
theorem laC_bu {MI : Nat → Nat → Int32} (t : Tg) (x : Int32) : burstV (laC MI t) 1 x = burstV MI 1 x := by unfold burstV; rw [laC_p, laC_p]
def spT (t : Tg) (w p : Int32) : Tg := if t.2.2.2.2.1 = 0 then (t.1, t.2.1, t.2.2.1, t.2.2.2.1, w, p) else t
def stT (t : Tg) (s i o : Int32) : Tg := if inR s 6 = true then (up t.1 s.toNatClampNeg 1, up t.2.1 s.toNatClampNeg i, up t.2.2.1 s.toNatClampNeg o, t.2.2.2.1, t.2.2.2.2.1, t.2.2.2.2.2) else t
def hvT (t : Tg) (s : Int32) : Bool := decide (inR s 6 = true ∧ ¬ t.1 s.toNatClampNeg = 0)
def gnT (t : Tg) (x : Nat) : Tg := (t.1, t.2.1, t.2.2.1, up t.2.2.2.1 x 1, t.2.2.2.2.1, t.2.2.2.2.2)
theorem spT_la {MI : Nat → Nat → Int32} (t : Tg) (w p : Int32) : spoilM (laC MI t) w p = laC MI (spT t w p) := by
  have h : laC MI t 43 6 = t.2.2.2.2.1 := rfl
  unfold spoilM spT
  rw [h]
  split
  · funext b i
    simp only [u2, laC]
    grind
  · rfl
theorem stT_la {MI : Nat → Nat → Int32} (t : Tg) (s i o : Int32) : setVM (laC MI t) s i o = laC MI (stT t s i o) := by
  unfold setVM stT
  split
  · funext b j
    simp only [u2, laC, up]
    grind
  · rfl
/-- an ARC's change of the tuple; P i j: part j of ARC i -/
def folT (P : Nat → Nat → Int32) (x : Nat) (t : Tg) : Tg :=
  let t1 := gnT t x
  let i := pickV t.2.1 6 (P x 0)
  let o := pickV t.2.2.1 6 (P x 0)
  if i &&& P x 2 ||| (i ^^^ -1) &&& P x 3 ||| o &&& P x 4 ||| (o ^^^ -1) &&& P x 5 = 0 then
    if hvT t (P x 1) then
      if pickV t.2.1 6 (P x 1) = i ^^^ (P x 2 ||| P x 3) ∧ pickV t.2.2.1 6 (P x 1) = o ^^^ (P x 4 ||| P x 5) then t1 else spT t1 2 (nI x)
    else stT t1 (P x 1) (i ^^^ (P x 2 ||| P x 3)) (o ^^^ (P x 4 ||| P x 5))
  else spT t1 1 (nI x)
def nxO (f : Nat → Int32) (A : Nat) (t : Tg) : Option Nat := (List.range A).find? (fun i => decide (t.2.2.2.1 i = 0) && hvT t (f i))
def optI (q : Option Nat) : Int32 := match q with
  | some i => nI i
  | none => -1
def goT (P : Nat → Nat → Int32) (A : Nat) : Nat → Tg → Tg
  | 0, t => t
  | k + 1, t => if t.2.2.2.2.1 = 0 then (match nxO (fun i => P i 0) A t with
    | some i => goT P A k (folT P i t)
    | none => t) else t
def zeroI (g : Nat → Int32) (m : Nat) : Nat → Int32 := fun k => if k < m then 0 else g k
def vlT : Nat → Tg → Tg
  | 0, t => t
  | k + 1, t => if hvT (vlT k t) (nI k) then vlT k t else spT (vlT k t) 3 (nI k)
def inT1 (P : Nat → Nat → Int32) (i : Nat) : Nat → Tg → Tg
  | 0, t => t
  | k + 1, t => if ¬ k = i ∧ P i 0 = P k 0 ∧ (P i 2 ||| P i 3) &&& ((P k 2 ||| P k 3) ^^^ -1) = 0 then spT (inT1 P i k t) 4 (nI i) else inT1 P i k t
def inT (P : Nat → Nat → Int32) (A : Nat) : Nat → Tg → Tg
  | 0, t => t
  | k + 1, t => inT1 P k A (inT P A k t)
def twT1 (C : Nat → Int32) (s : Nat) : Nat → Tg → Tg
  | 0, t => t
  | k + 1, t => if pointV (twT1 C s k t).2.1 C (nI s) = pointV (twT1 C s k t).2.1 C (nI k) ∧ ¬ pickV (twT1 C s k t).2.2.1 6 (nI s) = pickV (twT1 C s k t).2.2.1 6 (nI k) then spT (twT1 C s k t) 5 (nI s) else twT1 C s k t
def twT (C : Nat → Int32) : Nat → Tg → Tg
  | 0, t => t
  | k + 1, t => twT1 C k k (twT C k t)
section study2
variable {X : xG} {n : Nat} {MI : Nat → Nat → Int32} {ML : Nat → Nat → Int64} {MR : Nat → Nat → Option Nat}
theorem t_spoil {t : Tg} {w p : Int32} : Cf X yX8_spoil cX8_spoil 3 none 1 [.ref 43, .int w, .int p] n SH (laC MI t) ML MR none (laC MI (spT t w p)) ML MR := by
  have h := c_X8_spoil (X := X) (n := n) (MI := laC MI t) (ML := ML) (MR := MR) (w := w) (p := p)
  rw [spT_la] at h
  exact h
theorem t_setValues (hM : x_Lay MR) {t : Tg} {s i o : Int32} : Cf X yX8_setValues cX8_setValues 4 none 1 [.ref 43, .int s, .int i, .int o] n SH (laC MI t) ML MR none (laC MI (stT t s i o)) ML MR := by
  have h := c_X8_setValues (X := X) (n := n) (MI := laC MI t) (ML := ML) (MR := MR) (s := s) (i := i) (o := o) hM
  rw [stT_la] at h
  exact h
theorem t_hasValues (hM : x_Lay MR) {t : Tg} {x : Int32} : Cf X yX8_hasValues cX8_hasValues 2 (some .boolean) 1 [.ref 43, .int x] n SH (laC MI t) ML MR (some (.int (if hvT t x then 1 else 0))) (laC MI t) ML MR := by
  have h := c_X8_hasValues (X := X) (n := n) (MI := laC MI t) (ML := ML) (MR := MR) (x := x) hM
  have e : (if inR x 6 = true ∧ ¬ laC MI t 46 x.toNatClampNeg = 0 then (1 : Int32) else 0) = if hvT t x then 1 else 0 := by
    unfold hvT
    simp only [decide_eq_true_eq]
    rfl
  rw [e] at h
  exact h
theorem t_part (hM : x_Lay MR) {t : Tg} {x y : Int32} : Cf X yX5_part cX5_part 3 (some .int) 1 [.ref 1, .int x, .int y] n SH (laC MI t) ML MR (some (.int (partV MI 1 x y))) (laC MI t) ML MR := by
  have h := c_X5_part_1 (X := X) (n := n) (MI := laC MI t) (ML := ML) (MR := MR) (x := x) (y := y) hM
  rw [laC_p] at h
  exact h
theorem t_burst (hM : x_Lay MR) {t : Tg} {x : Int32} : Cf X yX5_burstInputs cX5_burstInputs 2 (some .int) 2 [.ref 1, .int x] n SH (laC MI t) ML MR (some (.int (burstV MI 1 x))) (laC MI t) ML MR := by
  have h := c_X5_burstInputs_1 (X := X) (n := n) (MI := laC MI t) (ML := ML) (MR := MR) (x := x) hM
  rw [laC_bu] at h
  exact h
abbrev arP (MI : Nat → Nat → Int32) : Nat → Nat → Int32 := fun i j => MI (4 + i) j
theorem arP_nI {MI : Nat → Nat → Int32} {i j : Nat} (hi : i < 8) (hj : j < 6) : partV MI 1 (nI i) (nI j) = arP MI i j := by rw [partV_nI hi hj]
theorem t_nextArc (hM : x_Lay MR) {t : Tg} {A : Nat} (hA : A ≤ 8) (hAr : MI 1 6 = nI A) : Cf X yX8_nextArc cX8_nextArc 2 (some .int) 2 [.ref 43] n SH (laC MI t) ML MR (some (.int (optI (nxO (fun i => arP MI i 0) A t)))) (laC MI t) ML MR := by
  refine Ct_of (by decide) (Nat.le_of_ble_eq_true rfl) (fun G hG => ?_)
  have hAl : laC MI t 1 6 = nI A := by rw [laC_b t (by decide), hAr]
  have loop : ∀ i, i ≤ A → (∀ k, k < i → (decide (t.2.2.2.1 k = 0) && hvT t (arP MI k 0)) = false) → RW X G RX8 cX8_nextArc 2 (x_rm 2 0 0) n SH (laC MI t) ML MR 0 0 2 [(1, .int (nI i)), (0, .ref 43)] [] := by
    refine bwd (fun i hi ih hk => ?_)
    have hnone : i = A → nxO (fun i => arP MI i 0) A t = none := fun e => by
      unfold nxO
      rw [List.find?_eq_none]
      intro k hk2
      rw [hk k (by rw [e]; exact List.mem_range.mp hk2)]
      decide
    have hsome : i < A → (decide (t.2.2.2.1 i = 0) && hvT t (arP MI i 0)) = true → nxO (fun i => arP MI i 0) A t = some i := fun hlt hb => by
      unfold nxO
      rw [List.find?_range_eq_some]
      exact ⟨hb, List.mem_range.mpr hlt, fun k hk2 => by rw [hk k hk2]; rfl⟩
    have hstep : (decide (t.2.2.2.1 i = 0) && hvT t (arP MI i 0)) = false → ∀ k, k < i + 1 → (decide (t.2.2.2.1 k = 0) && hvT t (arP MI k 0)) = false := fun hb k hk2 => by
      rcases Nat.lt_or_ge k i with q | q
      · exact hk k q
      · obtain rfl : k = i := by omega
        exact hb
    have hpp : i < A → partV MI 1 (nI i) 0 = arP MI i 0 := fun h => arP_nI (j := 0) (by omega) (by decide)
    refine r_iload_n 0 rfl dX8_nextArc_2 ?_
    refine r_aload_n 1 rfl dX8_nextArc_3 ?_
    refine r_getr dX8_nextArc_4 fl_X8_54 rfl (hM _ _ _ rfl) ?_
    refine r_geti dX8_nextArc_7 fl_X8_94 rfl ?_
    refine r_icmpge (tgt := 52) dX8_nextArc_10 (by decide) (fun zh10 => ?_) (fun zh10 => ?_)
    · rw [hAl] at zh10
      obtain rfl : i = A := by have := geL (k := A) (by omega) (by omega) zh10; omega
      refine r_iconst (v := (-1)) rfl dX8_nextArc_52 ?_
      exact r_iret hG dX8_nextArc_53 (⟨by rw [hnone rfl]; rfl, rfl, rfl, rfl⟩)
    · rw [hAl] at zh10
      have hlt : i < A := ltL (by omega) zh10
      refine r_iload_n 0 rfl dX8_nextArc_13 ?_
      refine r_bipush (v := 8) rfl dX8_nextArc_14 ?_
      refine r_icmpge (tgt := 52) dX8_nextArc_16 (by decide) (fun zh16 => ?_) (fun zh16 => ?_)
      · exact absurd zh16 (fun q => absurd (geL (k := 8) (by decide) (by omega) q) (by omega))
      refine r_aload_n 1 rfl dX8_nextArc_19 ?_
      refine r_getr dX8_nextArc_20 fl_X8_22 rfl (hM _ _ _ rfl) ?_
      refine r_iload_n 0 rfl dX8_nextArc_23 ?_
      refine r_zald dX8_nextArc_24 rfl (vp_in_nI (show i < 8 by omega) (by decide)) ?_
      refine r_ifne (tgt := 46) dX8_nextArc_25 (by decide) (fun zh25 => ?_) (fun zh25 => ?_)
      · try rw [show (nI i).toNatClampNeg = i from nI_clamp (by omega), show laC MI t 47 = t.2.2.2.1 from rfl] at zh25
        refine r_iinc (v := (nI (i + 1))) (ls2 := [(1, .int (nI (i + 1))), (0, .ref 43)]) 0 dX8_nextArc_46 rfl (x_inc i) (by decide) rfl ?_
        refine r_goto (tgt := 2) dX8_nextArc_49 (by decide) ?_
        refine ih hlt (hstep ?_)
        first
          | (rw [hpp hlt] at zh41; simp_all; done)
          | (simp_all; done)
      · rw [show (nI i).toNatClampNeg = i from nI_clamp (by omega), show laC MI t 47 = t.2.2.2.1 from rfl] at zh25
        refine r_aload_n 1 rfl dX8_nextArc_28 ?_
        refine r_aload_n 1 rfl dX8_nextArc_29 ?_
        refine r_getr dX8_nextArc_30 fl_X8_54 rfl (hM _ _ _ rfl) ?_
        refine r_iload_n 0 rfl dX8_nextArc_33 ?_
        refine r_iconst (v := 0) rfl dX8_nextArc_34 ?_
        refine r_Vf [.int _, .int _] dX8_nextArc_35 lk_X8_105 mb_X5_part in_X5_part se_X5_part rfl (t_part hM) rfl rfl rfl (Nat.le_of_ble_eq_true rfl) (rfl) ?_
        refine r_Vf [.int _] dX8_nextArc_38 lk_X8_109 mb_X8_hasValues in_X8_hasValues se_X8_hasValues rfl (t_hasValues hM) rfl rfl rfl (Nat.le_of_ble_eq_true rfl) (rfl) ?_
        refine r_ifeq (tgt := 46) dX8_nextArc_41 (by decide) (fun zh41 => ?_) (fun zh41 => ?_)
        · try rw [show (nI i).toNatClampNeg = i from nI_clamp (by omega), show laC MI t 47 = t.2.2.2.1 from rfl] at zh25
          refine r_iinc (v := (nI (i + 1))) (ls2 := [(1, .int (nI (i + 1))), (0, .ref 43)]) 0 dX8_nextArc_46 rfl (x_inc i) (by decide) rfl ?_
          refine r_goto (tgt := 2) dX8_nextArc_49 (by decide) ?_
          refine ih hlt (hstep ?_)
          first
            | (rw [hpp hlt] at zh41; simp_all; done)
            | (simp_all; done)
        · refine r_iload_n 0 rfl dX8_nextArc_44 ?_
          exact r_iret hG dX8_nextArc_45 (⟨by rw [hsome hlt (by rw [hpp hlt] at zh41; simp_all)]; rfl, rfl, rfl, rfl⟩)
  refine r_iconst (v := 0) rfl dX8_nextArc_0 ?_
  refine r_istore_n (ls2 := [(1, .int 0), (0, .ref 43)]) dX8_nextArc_1 (by decide) rfl ?_
  exact loop 0 (by omega) (fun k hk => absurd hk (Nat.not_lt_zero k))
theorem t_pick {t : Tg} {a : Nat} {x : Int32} (hs : SH[a]? = some (13, 6)) {f : Nat → Int32} (hf : laC MI t a = f) : Cf X yX10_pick cX10_pick 2 (some .int) 1 [.ref a, .int x] n SH (laC MI t) ML MR (some (.int (pickV f 6 x))) (laC MI t) ML MR := by
  subst hf
  exact c_X10_pick hs (by decide)
theorem t_follow (hM : x_Lay MR) {t : Tg} {x : Nat} (hx : x < 8) : Cf X yX8_follow cX8_follow 11 none 2 [.ref 43, .int (nI x)] n SH (laC MI t) ML MR none (laC MI (folT (arP MI) x t)) ML MR := by
  refine Ct_of (by decide) (Nat.le_of_ble_eq_true rfl) (fun G hG => ?_)
  have hp : ∀ j, j < 6 → partV MI 1 (nI x) (nI j) = arP MI x j := fun j hj => arP_nI hx hj
  have h0 : partV MI 1 (nI x) 0 = arP MI x 0 := hp 0 (by decide)
  have h1 : partV MI 1 (nI x) 1 = arP MI x 1 := hp 1 (by decide)
  have h2 : partV MI 1 (nI x) 2 = arP MI x 2 := hp 2 (by decide)
  have h3 : partV MI 1 (nI x) 3 = arP MI x 3 := hp 3 (by decide)
  have h4 : partV MI 1 (nI x) 4 = arP MI x 4 := hp 4 (by decide)
  have h5 : partV MI 1 (nI x) 5 = arP MI x 5 := hp 5 (by decide)
  have gone : u2 (laC MI t) 47 (nI x).toNatClampNeg (vp_nar .boolean 1) = laC MI (gnT t x) := by
    rw [nI_clamp (by omega), show vp_nar .boolean 1 = 1 from rfl]
    funext b j
    simp only [u2, laC, gnT, up]
    grind
  refine r_iload_n 1 rfl dX8_follow_0 ?_
  refine r_iflt (tgt := 10) dX8_follow_1 (by decide) (fun zh1 => ?_) (fun zh1 => ?_)
  · exact absurd zh1 (nI_pos (by omega))
  refine r_iload_n 1 rfl dX8_follow_4 ?_
  refine r_bipush (v := 8) rfl dX8_follow_5 ?_
  refine r_icmplt (tgt := 11) dX8_follow_7 (by decide) (fun zh7 => ?_) (fun zh7 => ?_)
  rotate_left
  · exact absurd zh7 (fun q => absurd (nI_lt (show x < 8 from hx) (by decide)) q)
  refine r_aload_n 0 rfl dX8_follow_11 ?_
  refine r_getr dX8_follow_12 fl_X8_22 rfl (hM _ _ _ rfl) ?_
  refine r_iload_n 1 rfl dX8_follow_15 ?_
  refine r_iconst (v := 1) rfl dX8_follow_16 ?_
  refine r_zast dX8_follow_17 rfl (vp_in_nI hx (by decide)) ?_
  refine r_mem gone rfl rfl ?_
  refine r_aload_n 0 rfl dX8_follow_18 ?_
  refine r_getr dX8_follow_19 fl_X8_9 rfl (hM _ _ _ rfl) ?_
  refine r_aload_n 0 rfl dX8_follow_22 ?_
  refine r_getr dX8_follow_23 fl_X8_54 rfl (hM _ _ _ rfl) ?_
  refine r_iload_n 1 rfl dX8_follow_26 ?_
  refine r_iconst (v := 0) rfl dX8_follow_27 ?_
  refine r_Vf [.int _, .int _] dX8_follow_28 lk_X8_105 mb_X5_part in_X5_part se_X5_part rfl (t_part hM) rfl rfl rfl (Nat.le_of_ble_eq_true rfl) (rfl) ?_
  refine r_Sf [.ref _, .int _] dX8_follow_31 lk_X8_113 mb_X10_pick sc_X10_pick rfl (t_pick (f := t.2.1) rfl rfl) rfl (Nat.le_of_ble_eq_true rfl) (rfl) ?_
  refine r_nmi (fun zv34 ze34 => ?_)
  refine r_istore_n (ls2 := [(2, .int zv34), (0, .ref 43), (1, .int (nI x))]) dX8_follow_34 (by decide) rfl ?_
  refine r_aload_n 1 rfl dX8_follow_35 ?_
  refine r_getr dX8_follow_36 fl_X8_15 rfl (hM _ _ _ rfl) ?_
  refine r_aload_n 1 rfl dX8_follow_39 ?_
  refine r_getr dX8_follow_40 fl_X8_54 rfl (hM _ _ _ rfl) ?_
  refine r_iload_n 2 rfl dX8_follow_43 ?_
  refine r_iconst (v := 0) rfl dX8_follow_44 ?_
  refine r_Vf [.int _, .int _] dX8_follow_45 lk_X8_105 mb_X5_part in_X5_part se_X5_part rfl (t_part hM) rfl rfl rfl (Nat.le_of_ble_eq_true rfl) (rfl) ?_
  refine r_Sf [.ref _, .int _] dX8_follow_48 lk_X8_113 mb_X10_pick sc_X10_pick rfl (t_pick (f := t.2.2.1) rfl rfl) rfl (Nat.le_of_ble_eq_true rfl) (rfl) ?_
  refine r_nmi (fun zv51 ze51 => ?_)
  refine r_istore_n (ls2 := [(3, .int zv51), (2, .int zv34), (0, .ref 43), (1, .int (nI x))]) dX8_follow_51 (by decide) rfl ?_
  refine r_aload_n 2 rfl dX8_follow_52 ?_
  refine r_getr dX8_follow_53 fl_X8_54 rfl (hM _ _ _ rfl) ?_
  refine r_iload_n 3 rfl dX8_follow_56 ?_
  refine r_iconst (v := 2) rfl dX8_follow_57 ?_
  refine r_Vf [.int _, .int _] dX8_follow_58 lk_X8_105 mb_X5_part in_X5_part se_X5_part rfl (t_part hM) rfl rfl rfl (Nat.le_of_ble_eq_true rfl) (rfl) ?_
  refine r_nmi (fun zv61 ze61 => ?_)
  refine r_istore (ls2 := [(4, .int zv61), (3, .int zv51), (2, .int zv34), (0, .ref 43), (1, .int (nI x))]) dX8_follow_61 (by decide) rfl ?_
  refine r_aload_n 3 rfl dX8_follow_63 ?_
  refine r_getr dX8_follow_64 fl_X8_54 rfl (hM _ _ _ rfl) ?_
  refine r_iload_n 4 rfl dX8_follow_67 ?_
  refine r_iconst (v := 3) rfl dX8_follow_68 ?_
  refine r_Vf [.int _, .int _] dX8_follow_69 lk_X8_105 mb_X5_part in_X5_part se_X5_part rfl (t_part hM) rfl rfl rfl (Nat.le_of_ble_eq_true rfl) (rfl) ?_
  refine r_nmi (fun zv72 ze72 => ?_)
  refine r_istore (ls2 := [(5, .int zv72), (4, .int zv61), (3, .int zv51), (2, .int zv34), (0, .ref 43), (1, .int (nI x))]) dX8_follow_72 (by decide) rfl ?_
  refine r_aload_n 4 rfl dX8_follow_74 ?_
  refine r_getr dX8_follow_75 fl_X8_54 rfl (hM _ _ _ rfl) ?_
  refine r_iload_n 5 rfl dX8_follow_78 ?_
  refine r_iconst (v := 4) rfl dX8_follow_79 ?_
  refine r_Vf [.int _, .int _] dX8_follow_80 lk_X8_105 mb_X5_part in_X5_part se_X5_part rfl (t_part hM) rfl rfl rfl (Nat.le_of_ble_eq_true rfl) (rfl) ?_
  refine r_nmi (fun zv83 ze83 => ?_)
  refine r_istore (ls2 := [(6, .int zv83), (5, .int zv72), (4, .int zv61), (3, .int zv51), (2, .int zv34), (0, .ref 43), (1, .int (nI x))]) dX8_follow_83 (by decide) rfl ?_
  refine r_aload_n 5 rfl dX8_follow_85 ?_
  refine r_getr dX8_follow_86 fl_X8_54 rfl (hM _ _ _ rfl) ?_
  refine r_iload_n 6 rfl dX8_follow_89 ?_
  refine r_iconst (v := 5) rfl dX8_follow_90 ?_
  refine r_Vf [.int _, .int _] dX8_follow_91 lk_X8_105 mb_X5_part in_X5_part se_X5_part rfl (t_part hM) rfl rfl rfl (Nat.le_of_ble_eq_true rfl) (rfl) ?_
  refine r_nmi (fun zv94 ze94 => ?_)
  refine r_istore (ls2 := [(7, .int zv94), (6, .int zv83), (5, .int zv72), (4, .int zv61), (3, .int zv51), (2, .int zv34), (0, .ref 43), (1, .int (nI x))]) dX8_follow_94 (by decide) rfl ?_
  refine r_iload_n 5 rfl dX8_follow_96 ?_
  refine r_iload 3 rfl dX8_follow_97 ?_
  refine r_iand dX8_follow_99 ?_
  refine r_iload_n 5 rfl dX8_follow_100 ?_
  refine r_iconst (v := (-1)) rfl dX8_follow_101 ?_
  refine r_ixor dX8_follow_102 ?_
  refine r_iload 2 rfl dX8_follow_103 ?_
  refine r_iand dX8_follow_105 ?_
  refine r_ior dX8_follow_106 ?_
  refine r_iload_n 4 rfl dX8_follow_107 ?_
  refine r_iload 1 rfl dX8_follow_108 ?_
  refine r_iand dX8_follow_110 ?_
  refine r_ior dX8_follow_111 ?_
  refine r_iload_n 4 rfl dX8_follow_112 ?_
  refine r_iconst (v := (-1)) rfl dX8_follow_113 ?_
  refine r_ixor dX8_follow_114 ?_
  refine r_iload 0 rfl dX8_follow_115 ?_
  refine r_iand dX8_follow_117 ?_
  refine r_ior dX8_follow_118 ?_
  refine r_ifeq (tgt := 129) dX8_follow_119 (by decide) (fun zh119 => ?_) (fun zh119 => ?_)
  · refine r_iload_n 5 rfl dX8_follow_129 ?_
    refine r_iload 3 rfl dX8_follow_130 ?_
    refine r_iload 2 rfl dX8_follow_132 ?_
    refine r_ior dX8_follow_134 ?_
    refine r_ixor dX8_follow_135 ?_
    refine r_nmi (fun zv136 ze136 => ?_)
    refine r_istore (ls2 := [(8, .int zv136), (7, .int zv94), (6, .int zv83), (5, .int zv72), (4, .int zv61), (3, .int zv51), (2, .int zv34), (0, .ref 43), (1, .int (nI x))]) dX8_follow_136 (by decide) rfl ?_
    refine r_iload_n 5 rfl dX8_follow_138 ?_
    refine r_iload 2 rfl dX8_follow_139 ?_
    refine r_iload 1 rfl dX8_follow_141 ?_
    refine r_ior dX8_follow_143 ?_
    refine r_ixor dX8_follow_144 ?_
    refine r_nmi (fun zv145 ze145 => ?_)
    refine r_istore (ls2 := [(9, .int zv145), (8, .int zv136), (7, .int zv94), (6, .int zv83), (5, .int zv72), (4, .int zv61), (3, .int zv51), (2, .int zv34), (0, .ref 43), (1, .int (nI x))]) dX8_follow_145 (by decide) rfl ?_
    refine r_aload_n 8 rfl dX8_follow_147 ?_
    refine r_getr dX8_follow_148 fl_X8_54 rfl (hM _ _ _ rfl) ?_
    refine r_iload_n 9 rfl dX8_follow_151 ?_
    refine r_iconst (v := 1) rfl dX8_follow_152 ?_
    refine r_Vf [.int _, .int _] dX8_follow_153 lk_X8_105 mb_X5_part in_X5_part se_X5_part rfl (t_part hM) rfl rfl rfl (Nat.le_of_ble_eq_true rfl) (rfl) ?_
    refine r_nmi (fun zv156 ze156 => ?_)
    refine r_istore (ls2 := [(10, .int zv156), (9, .int zv145), (8, .int zv136), (7, .int zv94), (6, .int zv83), (5, .int zv72), (4, .int zv61), (3, .int zv51), (2, .int zv34), (0, .ref 43), (1, .int (nI x))]) dX8_follow_156 (by decide) rfl ?_
    refine r_aload_n 9 rfl dX8_follow_158 ?_
    refine r_iload 0 rfl dX8_follow_159 ?_
    refine r_Vf [.int _] dX8_follow_161 lk_X8_109 mb_X8_hasValues in_X8_hasValues se_X8_hasValues rfl (t_hasValues hM) rfl rfl rfl (Nat.le_of_ble_eq_true rfl) (rfl) ?_
    refine r_ifne (tgt := 180) dX8_follow_164 (by decide) (fun zh164 => ?_) (fun zh164 => ?_)
    · refine r_aload_n 9 rfl dX8_follow_180 ?_
      refine r_getr dX8_follow_181 fl_X8_9 rfl (hM _ _ _ rfl) ?_
      refine r_iload 0 rfl dX8_follow_184 ?_
      refine r_Sf [.ref _, .int _] dX8_follow_186 lk_X8_113 mb_X10_pick sc_X10_pick rfl (t_pick (f := t.2.1) rfl rfl) rfl (Nat.le_of_ble_eq_true rfl) (rfl) ?_
      refine r_iload 2 rfl dX8_follow_189 ?_
      refine r_icmpne (tgt := 208) dX8_follow_191 (by decide) (fun zh191 => ?_) (fun zh191 => ?_)
      · refine r_aload_n 9 rfl dX8_follow_208 ?_
        refine r_iconst (v := 2) rfl dX8_follow_209 ?_
        refine r_iload_n 10 rfl dX8_follow_210 ?_
        refine r_Vn [.int _, .int _] dX8_follow_211 lk_X8_117 mb_X8_spoil in_X8_spoil se_X8_spoil rfl (t_spoil) rfl rfl rfl (Nat.le_of_ble_eq_true rfl) (rfl) ?_
        exact r_vret hG dX8_follow_214 (by (try rw [h0] at ze34); (try rw [h0] at ze51); (try rw [h2] at ze61); (try rw [h3] at ze72); (try rw [h4] at ze83); (try rw [h5] at ze94); (try rw [h1] at ze156); subst ze34; subst ze51; subst ze61; subst ze72; subst ze83; subst ze94; (try subst ze136); (try subst ze145); (try subst ze156); refine ⟨rfl, congrArg (laC MI) ?_, rfl, rfl⟩; have hg : ∀ s, hvT (gnT t x) s = hvT t s := fun _ => rfl; clear h0 h1 h2 h3 h4 h5 hp gone hG; simp_all [folT])
      · refine r_aload_n 9 rfl dX8_follow_194 ?_
        refine r_getr dX8_follow_195 fl_X8_15 rfl (hM _ _ _ rfl) ?_
        refine r_iload 0 rfl dX8_follow_198 ?_
        refine r_Sf [.ref _, .int _] dX8_follow_200 lk_X8_113 mb_X10_pick sc_X10_pick rfl (t_pick (f := t.2.2.1) rfl rfl) rfl (Nat.le_of_ble_eq_true rfl) (rfl) ?_
        refine r_iload 1 rfl dX8_follow_203 ?_
        refine r_icmpeq (tgt := 214) dX8_follow_205 (by decide) (fun zh205 => ?_) (fun zh205 => ?_)
        · exact r_vret hG dX8_follow_214 (by (try rw [h0] at ze34); (try rw [h0] at ze51); (try rw [h2] at ze61); (try rw [h3] at ze72); (try rw [h4] at ze83); (try rw [h5] at ze94); (try rw [h1] at ze156); subst ze34; subst ze51; subst ze61; subst ze72; subst ze83; subst ze94; (try subst ze136); (try subst ze145); (try subst ze156); refine ⟨rfl, congrArg (laC MI) ?_, rfl, rfl⟩; have hg : ∀ s, hvT (gnT t x) s = hvT t s := fun _ => rfl; clear h0 h1 h2 h3 h4 h5 hp gone hG; simp_all [folT])
        · refine r_aload_n 9 rfl dX8_follow_208 ?_
          refine r_iconst (v := 2) rfl dX8_follow_209 ?_
          refine r_iload_n 10 rfl dX8_follow_210 ?_
          refine r_Vn [.int _, .int _] dX8_follow_211 lk_X8_117 mb_X8_spoil in_X8_spoil se_X8_spoil rfl (t_spoil) rfl rfl rfl (Nat.le_of_ble_eq_true rfl) (rfl) ?_
          exact r_vret hG dX8_follow_214 (by (try rw [h0] at ze34); (try rw [h0] at ze51); (try rw [h2] at ze61); (try rw [h3] at ze72); (try rw [h4] at ze83); (try rw [h5] at ze94); (try rw [h1] at ze156); subst ze34; subst ze51; subst ze61; subst ze72; subst ze83; subst ze94; (try subst ze136); (try subst ze145); (try subst ze156); refine ⟨rfl, congrArg (laC MI) ?_, rfl, rfl⟩; have hg : ∀ s, hvT (gnT t x) s = hvT t s := fun _ => rfl; clear h0 h1 h2 h3 h4 h5 hp gone hG; simp_all [folT])
    · refine r_aload_n 9 rfl dX8_follow_167 ?_
      refine r_iload 0 rfl dX8_follow_168 ?_
      refine r_iload 2 rfl dX8_follow_170 ?_
      refine r_iload 1 rfl dX8_follow_172 ?_
      refine r_Vn [.int _, .int _, .int _] dX8_follow_174 lk_X8_90 mb_X8_setValues in_X8_setValues se_X8_setValues rfl (t_setValues hM) rfl rfl rfl (Nat.le_of_ble_eq_true rfl) (rfl) ?_
      refine r_goto (tgt := 214) dX8_follow_177 (by decide) ?_
      exact r_vret hG dX8_follow_214 (by (try rw [h0] at ze34); (try rw [h0] at ze51); (try rw [h2] at ze61); (try rw [h3] at ze72); (try rw [h4] at ze83); (try rw [h5] at ze94); (try rw [h1] at ze156); subst ze34; subst ze51; subst ze61; subst ze72; subst ze83; subst ze94; (try subst ze136); (try subst ze145); (try subst ze156); refine ⟨rfl, congrArg (laC MI) ?_, rfl, rfl⟩; have hg : ∀ s, hvT (gnT t x) s = hvT t s := fun _ => rfl; clear h0 h1 h2 h3 h4 h5 hp gone hG; simp_all [folT])
  · refine r_aload_n 6 rfl dX8_follow_122 ?_
    refine r_iconst (v := 1) rfl dX8_follow_123 ?_
    refine r_iload_n 7 rfl dX8_follow_124 ?_
    refine r_Vn [.int _, .int _] dX8_follow_125 lk_X8_117 mb_X8_spoil in_X8_spoil se_X8_spoil rfl (t_spoil) rfl rfl rfl (Nat.le_of_ble_eq_true rfl) (rfl) ?_
    exact r_vret hG dX8_follow_128 (by (try rw [h0] at ze34); (try rw [h0] at ze51); (try rw [h2] at ze61); (try rw [h3] at ze72); (try rw [h4] at ze83); (try rw [h5] at ze94); (try rw [h1] at ze156); subst ze34; subst ze51; subst ze61; subst ze72; subst ze83; subst ze94; (try subst ze136); (try subst ze145); (try subst ze156); refine ⟨rfl, congrArg (laC MI) ?_, rfl, rfl⟩; have hg : ∀ s, hvT (gnT t x) s = hvT t s := fun _ => rfl; clear h0 h1 h2 h3 h4 h5 hp gone hG; simp_all [folT])
end study2

/-! Study: VALUES and what is BAD, as a tuple: valued, inputs, outputs, gone, evil, its place -/
abbrev Tg : Type := (Nat → Int32) × (Nat → Int32) × (Nat → Int32) × (Nat → Int32) × Int32 × Int32
def tgC (MI : Nat → Nat → Int32) : Tg := (MI 46, MI 44, MI 45, MI 47, MI 43 6, MI 43 7)
def laC (MI : Nat → Nat → Int32) (t : Tg) : Nat → Nat → Int32 := fun b i => if b = 46 then t.1 i else if b = 44 then t.2.1 i else if b = 45 then t.2.2.1 i else if b = 47 then t.2.2.2.1 i else if b = 43 ∧ i = 6 then t.2.2.2.2.1 else if b = 43 ∧ i = 7 then t.2.2.2.2.2 else MI b i
theorem laC_id (MI : Nat → Nat → Int32) : laC MI (tgC MI) = MI := by
  funext b i
  simp only [laC, tgC]
  grind
theorem laC_b {MI : Nat → Nat → Int32} (t : Tg) {b : Nat} (h : b < 43 ∨ 47 < b) : laC MI t b = MI b := by
  funext i
  simp only [laC]
  grind
theorem laC_p {MI : Nat → Nat → Int32} (t : Tg) (x y : Int32) : partV (laC MI t) 1 x y = partV MI 1 x y := by
  unfold partV
  split
  · rename_i h
    have hx := inR_t.mp h.1
    have := clampLt (N := 8) (by decide) hx.1 hx.2
    rw [laC_b t (by omega)]
  · rfl
theorem laC_bu {MI : Nat → Nat → Int32} (t : Tg) (x : Int32) : burstV (laC MI t) 1 x = burstV MI 1 x := by unfold burstV; rw [laC_p, laC_p]
def spT (t : Tg) (w p : Int32) : Tg := if t.2.2.2.2.1 = 0 then (t.1, t.2.1, t.2.2.1, t.2.2.2.1, w, p) else t
def stT (t : Tg) (s i o : Int32) : Tg := if inR s 6 = true then (up t.1 s.toNatClampNeg 1, up t.2.1 s.toNatClampNeg i, up t.2.2.1 s.toNatClampNeg o, t.2.2.2.1, t.2.2.2.2.1, t.2.2.2.2.2) else t
def hvT (t : Tg) (s : Int32) : Bool := decide (inR s 6 = true ∧ ¬ t.1 s.toNatClampNeg = 0)
def gnT (t : Tg) (x : Nat) : Tg := (t.1, t.2.1, t.2.2.1, up t.2.2.2.1 x 1, t.2.2.2.2.1, t.2.2.2.2.2)
theorem spT_la {MI : Nat → Nat → Int32} (t : Tg) (w p : Int32) : spoilM (laC MI t) w p = laC MI (spT t w p) := by
  have h : laC MI t 43 6 = t.2.2.2.2.1 := rfl
  unfold spoilM spT
  rw [h]
  split
  · funext b i
    simp only [u2, laC]
    grind
  · rfl
theorem stT_la {MI : Nat → Nat → Int32} (t : Tg) (s i o : Int32) : setVM (laC MI t) s i o = laC MI (stT t s i o) := by
  unfold setVM stT
  split
  · funext b j
    simp only [u2, laC, up]
    grind
  · rfl
/-- an ARC's change of the tuple; P i j: part j of ARC i -/
def folT (P : Nat → Nat → Int32) (x : Nat) (t : Tg) : Tg :=
  let t1 := gnT t x
  let i := pickV t.2.1 6 (P x 0)
  let o := pickV t.2.2.1 6 (P x 0)
  if i &&& P x 2 ||| (i ^^^ -1) &&& P x 3 ||| o &&& P x 4 ||| (o ^^^ -1) &&& P x 5 = 0 then
    if hvT t (P x 1) then
      if pickV t.2.1 6 (P x 1) = i ^^^ (P x 2 ||| P x 3) ∧ pickV t.2.2.1 6 (P x 1) = o ^^^ (P x 4 ||| P x 5) then t1 else spT t1 2 (nI x)
    else stT t1 (P x 1) (i ^^^ (P x 2 ||| P x 3)) (o ^^^ (P x 4 ||| P x 5))
  else spT t1 1 (nI x)
def nxO (f : Nat → Int32) (A : Nat) (t : Tg) : Option Nat := (List.range A).find? (fun i => decide (t.2.2.2.1 i = 0) && hvT t (f i))
def optI (q : Option Nat) : Int32 := match q with
  | some i => nI i
  | none => -1
def goT (P : Nat → Nat → Int32) (A : Nat) : Nat → Tg → Tg
  | 0, t => t
  | k + 1, t => if t.2.2.2.2.1 = 0 then (match nxO (fun i => P i 0) A t with
    | some i => goT P A k (folT P i t)
    | none => t) else t
def zeroI (g : Nat → Int32) (m : Nat) : Nat → Int32 := fun k => if k < m then 0 else g k
def vlT : Nat → Tg → Tg
  | 0, t => t
  | k + 1, t => if hvT (vlT k t) (nI k) then vlT k t else spT (vlT k t) 3 (nI k)
def inT1 (P : Nat → Nat → Int32) (i : Nat) : Nat → Tg → Tg
  | 0, t => t
  | k + 1, t => if ¬ k = i ∧ P i 0 = P k 0 ∧ (P i 2 ||| P i 3) &&& ((P k 2 ||| P k 3) ^^^ -1) = 0 then spT (inT1 P i k t) 4 (nI i) else inT1 P i k t
def inT (P : Nat → Nat → Int32) (A : Nat) : Nat → Tg → Tg
  | 0, t => t
  | k + 1, t => inT1 P k A (inT P A k t)
def twT1 (C : Nat → Int32) (s : Nat) : Nat → Tg → Tg
  | 0, t => t
  | k + 1, t => if pointV (twT1 C s k t).2.1 C (nI s) = pointV (twT1 C s k t).2.1 C (nI k) ∧ ¬ pickV (twT1 C s k t).2.2.1 6 (nI s) = pickV (twT1 C s k t).2.2.1 6 (nI k) then spT (twT1 C s k t) 5 (nI s) else twT1 C s k t
def twT (C : Nat → Int32) : Nat → Tg → Tg
  | 0, t => t
  | k + 1, t => twT1 C k k (twT C k t)
section study2
variable {X : xG} {n : Nat} {MI : Nat → Nat → Int32} {ML : Nat → Nat → Int64} {MR : Nat → Nat → Option Nat}
theorem t_spoil {t : Tg} {w p : Int32} : Cf X yX8_spoil cX8_spoil 3 none 1 [.ref 43, .int w, .int p] n SH (laC MI t) ML MR none (laC MI (spT t w p)) ML MR := by
  have h := c_X8_spoil (X := X) (n := n) (MI := laC MI t) (ML := ML) (MR := MR) (w := w) (p := p)
  rw [spT_la] at h
  exact h
theorem t_setValues (hM : x_Lay MR) {t : Tg} {s i o : Int32} : Cf X yX8_setValues cX8_setValues 4 none 1 [.ref 43, .int s, .int i, .int o] n SH (laC MI t) ML MR none (laC MI (stT t s i o)) ML MR := by
  have h := c_X8_setValues (X := X) (n := n) (MI := laC MI t) (ML := ML) (MR := MR) (s := s) (i := i) (o := o) hM
  rw [stT_la] at h
  exact h
theorem t_hasValues (hM : x_Lay MR) {t : Tg} {x : Int32} : Cf X yX8_hasValues cX8_hasValues 2 (some .boolean) 1 [.ref 43, .int x] n SH (laC MI t) ML MR (some (.int (if hvT t x then 1 else 0))) (laC MI t) ML MR := by
  have h := c_X8_hasValues (X := X) (n := n) (MI := laC MI t) (ML := ML) (MR := MR) (x := x) hM
  have e : (if inR x 6 = true ∧ ¬ laC MI t 46 x.toNatClampNeg = 0 then (1 : Int32) else 0) = if hvT t x then 1 else 0 := by
    unfold hvT
    simp only [decide_eq_true_eq]
    rfl
  rw [e] at h
  exact h
theorem t_part (hM : x_Lay MR) {t : Tg} {x y : Int32} : Cf X yX5_part cX5_part 3 (some .int) 1 [.ref 1, .int x, .int y] n SH (laC MI t) ML MR (some (.int (partV MI 1 x y))) (laC MI t) ML MR := by
  have h := c_X5_part_1 (X := X) (n := n) (MI := laC MI t) (ML := ML) (MR := MR) (x := x) (y := y) hM
  rw [laC_p] at h
  exact h
theorem t_burst (hM : x_Lay MR) {t : Tg} {x : Int32} : Cf X yX5_burstInputs cX5_burstInputs 2 (some .int) 2 [.ref 1, .int x] n SH (laC MI t) ML MR (some (.int (burstV MI 1 x))) (laC MI t) ML MR := by
  have h := c_X5_burstInputs_1 (X := X) (n := n) (MI := laC MI t) (ML := ML) (MR := MR) (x := x) hM
  rw [laC_bu] at h
  exact h
abbrev arP (MI : Nat → Nat → Int32) : Nat → Nat → Int32 := fun i j => MI (4 + i) j
theorem arP_nI {MI : Nat → Nat → Int32} {i j : Nat} (hi : i < 8) (hj : j < 6) : partV MI 1 (nI i) (nI j) = arP MI i j := by rw [partV_nI hi hj]
theorem t_nextArc (hM : x_Lay MR) {t : Tg} {A : Nat} (hA : A ≤ 8) (hAr : MI 1 6 = nI A) : Cf X yX8_nextArc cX8_nextArc 2 (some .int) 2 [.ref 43] n SH (laC MI t) ML MR (some (.int (optI (nxO (fun i => arP MI i 0) A t)))) (laC MI t) ML MR := by
  refine Ct_of (by decide) (Nat.le_of_ble_eq_true rfl) (fun G hG => ?_)
  have hAl : laC MI t 1 6 = nI A := by rw [laC_b t (by decide), hAr]
  have loop : ∀ i, i ≤ A → (∀ k, k < i → (decide (t.2.2.2.1 k = 0) && hvT t (arP MI k 0)) = false) → RW X G RX8 cX8_nextArc 2 (x_rm 2 0 0) n SH (laC MI t) ML MR 0 0 2 [(1, .int (nI i)), (0, .ref 43)] [] := by
    refine bwd (fun i hi ih hk => ?_)
    have hnone : i = A → nxO (fun i => arP MI i 0) A t = none := fun e => by
      unfold nxO
      rw [List.find?_eq_none]
      intro k hk2
      rw [hk k (by rw [e]; exact List.mem_range.mp hk2)]
      decide
    have hsome : i < A → (decide (t.2.2.2.1 i = 0) && hvT t (arP MI i 0)) = true → nxO (fun i => arP MI i 0) A t = some i := fun hlt hb => by
      unfold nxO
      rw [List.find?_range_eq_some]
      exact ⟨hb, List.mem_range.mpr hlt, fun k hk2 => by rw [hk k hk2]; rfl⟩
    have hstep : (decide (t.2.2.2.1 i = 0) && hvT t (arP MI i 0)) = false → ∀ k, k < i + 1 → (decide (t.2.2.2.1 k = 0) && hvT t (arP MI k 0)) = false := fun hb k hk2 => by
      rcases Nat.lt_or_ge k i with q | q
      · exact hk k q
      · obtain rfl : k = i := by omega
        exact hb
    refine r_iload_n 0 rfl dX8_nextArc_2 ?_
    refine r_aload_n 1 rfl dX8_nextArc_3 ?_
    refine r_getr dX8_nextArc_4 fl_X8_54 rfl (hM _ _ _ rfl) ?_
    refine r_geti dX8_nextArc_7 fl_X8_94 rfl ?_
    refine r_icmpge (tgt := 52) dX8_nextArc_10 (by decide) (fun zh10 => ?_) (fun zh10 => ?_)
    · first
        | (have h8 := geL (k := 8) (by decide) (by omega) zh16; exfalso; omega)
        | (rw [hAl] at zh10; obtain rfl : i = A := by have := geL (k := A) (by omega) (by omega) zh10; omega)
      refine r_iconst (v := (-1)) rfl dX8_nextArc_52 ?_
      exact r_iret hG dX8_nextArc_53 (⟨by rw [hnone rfl]; rfl, rfl, rfl, rfl⟩)
    · rw [hAl] at zh10
      have hlt : i < A := ltL (by omega) zh10
      refine r_iload_n 0 rfl dX8_nextArc_13 ?_
      refine r_bipush (v := 8) rfl dX8_nextArc_14 ?_
      refine r_icmpge (tgt := 52) dX8_nextArc_16 (by decide) (fun zh16 => ?_) (fun zh16 => ?_)
      · first
          | (have h8 := geL (k := 8) (by decide) (by omega) zh16; exfalso; omega)
          | (rw [hAl] at zh10; obtain rfl : i = A := by have := geL (k := A) (by omega) (by omega) zh10; omega)
        refine r_iconst (v := (-1)) rfl dX8_nextArc_52 ?_
        exact r_iret hG dX8_nextArc_53 (⟨by rw [hnone rfl]; rfl, rfl, rfl, rfl⟩)
      · refine r_aload_n 1 rfl dX8_nextArc_19 ?_
        refine r_getr dX8_nextArc_20 fl_X8_22 rfl (hM _ _ _ rfl) ?_
        refine r_iload_n 0 rfl dX8_nextArc_23 ?_
        refine r_zald dX8_nextArc_24 rfl (vp_in_nI (show i < 8 by omega) (by decide)) ?_
        refine r_ifne (tgt := 46) dX8_nextArc_25 (by decide) (fun zh25 => ?_) (fun zh25 => ?_)
        · rw [show (nI i).toNatClampNeg = i from nI_clamp (by omega), show laC MI t 47 = t.2.2.2.1 from rfl] at zh25
          refine r_iinc (v := (nI (i + 1))) (ls2 := [(1, .int (nI (i + 1))), (0, .ref 43)]) 0 dX8_nextArc_46 rfl (x_inc i) (by decide) rfl ?_
          refine r_goto (tgt := 2) dX8_nextArc_49 (by decide) ?_
          refine ih hlt (hstep ?_)
          first
            | (rw [show (0 : Int32) = nI 0 from rfl, arP_nI (by omega) (by decide)] at zh41; simp_all; done)
            | (simp_all; done)
        · rw [show (nI i).toNatClampNeg = i from nI_clamp (by omega), show laC MI t 47 = t.2.2.2.1 from rfl] at zh25
          refine r_aload_n 1 rfl dX8_nextArc_28 ?_
          refine r_aload_n 1 rfl dX8_nextArc_29 ?_
          refine r_getr dX8_nextArc_30 fl_X8_54 rfl (hM _ _ _ rfl) ?_
          refine r_iload_n 0 rfl dX8_nextArc_33 ?_
          refine r_iconst (v := 0) rfl dX8_nextArc_34 ?_
          refine r_Vf [.int _, .int _] dX8_nextArc_35 lk_X8_105 mb_X5_part in_X5_part se_X5_part rfl (t_part hM) rfl rfl rfl (Nat.le_of_ble_eq_true rfl) (rfl) ?_
          refine r_Vf [.int _] dX8_nextArc_38 lk_X8_109 mb_X8_hasValues in_X8_hasValues se_X8_hasValues rfl (t_hasValues hM) rfl rfl rfl (Nat.le_of_ble_eq_true rfl) (rfl) ?_
          refine r_ifeq (tgt := 46) dX8_nextArc_41 (by decide) (fun zh41 => ?_) (fun zh41 => ?_)
          · rw [show (nI i).toNatClampNeg = i from nI_clamp (by omega), show laC MI t 47 = t.2.2.2.1 from rfl] at zh25
            refine r_iinc (v := (nI (i + 1))) (ls2 := [(1, .int (nI (i + 1))), (0, .ref 43)]) 0 dX8_nextArc_46 rfl (x_inc i) (by decide) rfl ?_
            refine r_goto (tgt := 2) dX8_nextArc_49 (by decide) ?_
            refine ih hlt (hstep ?_)
            first
              | (rw [show (0 : Int32) = nI 0 from rfl, arP_nI (by omega) (by decide)] at zh41; simp_all; done)
              | (simp_all; done)
          · refine r_iload_n 0 rfl dX8_nextArc_44 ?_
            exact r_iret hG dX8_nextArc_45 (⟨by rw [hsome hlt (by rw [show (0 : Int32) = nI 0 from rfl, arP_nI (by omega) (by decide)] at zh41; simp_all)]; rfl, rfl, rfl, rfl⟩)
  refine r_iconst (v := 0) rfl dX8_nextArc_0 ?_
  refine r_istore_n (ls2 := [(1, .int 0), (0, .ref 43)]) dX8_nextArc_1 (by decide) rfl ?_
  exact loop 0 (by omega) (fun k hk => absurd hk (Nat.not_lt_zero k))
end study2

/-! Study: describeArcs, look -/
def dscV (P : Nat → Nat → Int32) (C : Nat → Int32) (t : Tg) (b i : Nat) : Int32 :=
  if b = 51 then numC (pointV t.2.1 C (P i 0)) (P i 2 ||| P i 3) 6
  else if b = 52 then numC (pointV t.2.1 C (P i 0) ^^^ (P i 2 ||| P i 3)) ((pointV t.2.1 C (P i 0) ^^^ (P i 2 ||| P i 3)) ^^^ pointV t.2.1 C (P i 1)) 6
  else if b = 53 then pointV t.2.1 C (P i 0)
  else if b = 54 then valV t.2.2.1 C (P i 0)
  else valV t.2.2.1 C (P i 1)
def dsM (MI : Nat → Nat → Int32) (V : Nat → Nat → Int32) (m : Nat) : Nat → Nat → Int32 := fun b j => if 51 ≤ b ∧ b ≤ 55 ∧ j < m then V b j else MI b j
theorem dsM_b {MI V : Nat → Nat → Int32} {m b : Nat} (h : b < 51 ∨ 55 < b) : dsM MI V m b = MI b := by
  funext j
  unfold dsM
  rw [if_neg (by omega)]
theorem dsM_p {MI V : Nat → Nat → Int32} {m : Nat} (x y : Int32) : partV (dsM MI V m) 1 x y = partV MI 1 x y := by
  unfold partV
  split
  · rename_i h
    have hx := inR_t.mp h.1
    have := clampLt (N := 8) (by decide) hx.1 hx.2
    rw [dsM_b (by omega)]
  · rfl
theorem partV_u2 {MI : Nat → Nat → Int32} {b j : Nat} {v : Int32} (hb : b < 4 ∨ 11 < b) (x y : Int32) : partV (u2 MI b j v) 1 x y = partV MI 1 x y := by
  unfold partV
  split
  · rename_i h
    have hx := inR_t.mp h.1
    have := clampLt (N := 8) (by decide) hx.1 hx.2
    rw [u2_row _ _ (by omega)]
  · rfl
/-- go on only while nothing is BAD -/
def cnd (t : Tg) (f : Tg → Tg) : Tg := if t.2.2.2.2.1 = 0 then f t else t
theorem cnd_pos {t : Tg} {f : Tg → Tg} (h : t.2.2.2.2.1 = 0) : cnd t f = f t := if_pos h
theorem cnd_neg {t : Tg} {f : Tg → Tg} (h : ¬ t.2.2.2.2.1 = 0) : cnd t f = t := if_neg h
/-- look: the tuple behind goAlong and the first three seeks -/
def lk4 (P : Nat → Nat → Int32) (C : Nat → Int32) (S A : Nat) (b bi bo : Int32) (t : Tg) : Tg :=
  cnd (cnd (cnd (goA P A b bi bo (t.1, t.2.1, t.2.2.1, t.2.2.2.1, 0, -2)) (vlT S)) (inT P A A)) (twT C S)
/-- look: demands and tuple -/
def lkD (P : Nat → Nat → Int32) (C : Nat → Int32) (S A : Nat) (b bi bo : Int32) (q : Dp) (t : Tg) : Dp × Tg :=
  if (lk4 P C S A b bi bo t).2.2.2.2.1 = 0 then seekC P C S A q (lk4 P C S A b bi bo t) else (q, lk4 P C S A b bi bo t)
section study5
variable {X : xG} {n : Nat} {MI : Nat → Nat → Int32} {ML : Nat → Nat → Int64} {MR : Nat → Nat → Option Nat}
theorem t_describeArcs (hM : x_Lay MR) {t : Tg} {A : Nat} (hA : A ≤ 8) (hAr : MI 1 6 = nI A) : Cf X yX8_describeArcs cX8_describeArcs 6 none 3 [.ref 43] n SH (laC MI t) ML MR none (laC (dsM MI (dscV (arP MI) (MI 2) t) A) t) ML MR := by
  refine Ct_of (by decide) (Nat.le_of_ble_eq_true rfl) (fun G hG => ?_)
  obtain ⟨V, hV⟩ : ∃ V, V = dscV (arP MI) (MI 2) t := ⟨_, rfl⟩
  rw [← hV] at hG
  have hAl : ∀ m t, laC (dsM MI V m) t 1 6 = nI A := fun m t => by rw [laC_b t (by decide), dsM_b (by decide), hAr]
  have loop : ∀ i, i ≤ A → RW X G RX8 cX8_describeArcs 6 (x_rm 3 0 0) n SH (laC (dsM MI V i) t) ML MR 0 0 2 [(1, .int (nI i)), (0, .ref 43)] [] := by
    refine bwd (fun i hi ih => ?_)
    have hc2 : ∀ m, dsM MI V m 2 = MI 2 := fun m => dsM_b (by decide)
    have hp : ∀ j, j < 6 → i < A → partV (dsM MI V i) 1 (nI i) (nI j) = arP MI i j := fun j hj h => by rw [dsM_p]; exact arP_nI (by omega) hj
    have hp0 : i < A → partV (dsM MI V i) 1 (nI i) 0 = arP MI i 0 := hp 0 (by decide)
    have hp1 : i < A → partV (dsM MI V i) 1 (nI i) 1 = arP MI i 1 := hp 1 (by decide)
    have hbu : i < A → ∀ W, (∀ x y, partV W 1 x y = partV MI 1 x y) → burstV W 1 (nI i) = (arP MI i 2 ||| arP MI i 3) := fun h W hW => by unfold burstV; rw [hW, hW, show partV MI 1 (nI i) 2 = arP MI i 2 from arP_nI (j := 2) (by omega) (by decide), show partV MI 1 (nI i) 3 = arP MI i 3 from arP_nI (j := 3) (by omega) (by decide)]
    refine r_iload_n 0 rfl dX8_describeArcs_2 ?_
    refine r_aload_n 1 rfl dX8_describeArcs_3 ?_
    refine r_getr dX8_describeArcs_4 fl_X8_54 rfl (hM _ _ _ rfl) ?_
    refine r_geti dX8_describeArcs_7 fl_X8_94 rfl ?_
    refine r_icmpge (tgt := 161) dX8_describeArcs_10 (by decide) (fun zh10 => ?_) (fun zh10 => ?_)
    · rw [hAl] at zh10
      obtain rfl : i = A := by have := geL (k := A) (by omega) (by omega) zh10; omega
      exact r_vret hG dX8_describeArcs_161 (⟨rfl, rfl, rfl, rfl⟩)
    · rw [hAl] at zh10
      have hlt : i < A := ltL (by omega) zh10
      refine r_iload_n 0 rfl dX8_describeArcs_13 ?_
      refine r_bipush (v := 8) rfl dX8_describeArcs_14 ?_
      refine r_icmpge (tgt := 161) dX8_describeArcs_16 (by decide) (fun zh16 => ?_) (fun zh16 => ?_)
      · exact absurd zh16 (fun q => absurd (geL (k := 8) (by decide) (by omega) q) (by omega))
      refine r_aload_n 1 rfl dX8_describeArcs_19 ?_
      refine r_getr dX8_describeArcs_20 fl_X8_54 rfl (hM _ _ _ rfl) ?_
      refine r_iload_n 0 rfl dX8_describeArcs_23 ?_
      refine r_iconst (v := 0) rfl dX8_describeArcs_24 ?_
      refine r_Vf [.int _, .int _] dX8_describeArcs_25 lk_X8_105 mb_X5_part in_X5_part se_X5_part rfl (c_X5_part_1 hM) rfl rfl rfl (Nat.le_of_ble_eq_true rfl) (rfl) ?_
      refine r_nmi (fun zv28 ze28 => ?_)
      refine r_istore_n (ls2 := [(2, .int zv28), (1, .int (nI i)), (0, .ref 43)]) dX8_describeArcs_28 (by decide) rfl ?_
      refine r_aload_n 2 rfl dX8_describeArcs_29 ?_
      refine r_getr dX8_describeArcs_30 fl_X8_54 rfl (hM _ _ _ rfl) ?_
      refine r_iload_n 1 rfl dX8_describeArcs_33 ?_
      refine r_iconst (v := 1) rfl dX8_describeArcs_34 ?_
      refine r_Vf [.int _, .int _] dX8_describeArcs_35 lk_X8_105 mb_X5_part in_X5_part se_X5_part rfl (c_X5_part_1 hM) rfl rfl rfl (Nat.le_of_ble_eq_true rfl) (rfl) ?_
      refine r_nmi (fun zv38 ze38 => ?_)
      refine r_istore_n (ls2 := [(3, .int zv38), (2, .int zv28), (1, .int (nI i)), (0, .ref 43)]) dX8_describeArcs_38 (by decide) rfl ?_
      refine r_aload_n 3 rfl dX8_describeArcs_39 ?_
      refine r_aload_n 3 rfl dX8_describeArcs_40 ?_
      refine r_getr dX8_describeArcs_41 fl_X8_54 rfl (hM _ _ _ rfl) ?_
      refine r_getr dX8_describeArcs_44 fl_X8_128 rfl (hM _ _ _ rfl) ?_
      refine r_iload_n 1 rfl dX8_describeArcs_47 ?_
      refine r_Vf [.ref _, .int _] dX8_describeArcs_48 lk_X8_131 mb_X8_pointIn in_X8_pointIn se_X8_pointIn rfl (c_X8_pointIn hM rfl) rfl rfl rfl (Nat.le_of_ble_eq_true rfl) (rfl) ?_
      refine r_nmi (fun zv51 ze51 => ?_)
      refine r_istore (ls2 := [(4, .int zv51), (3, .int zv38), (2, .int zv28), (1, .int (nI i)), (0, .ref 43)]) dX8_describeArcs_51 (by decide) rfl ?_
      refine r_iload 0 rfl dX8_describeArcs_53 ?_
      refine r_aload_n 4 rfl dX8_describeArcs_55 ?_
      refine r_getr dX8_describeArcs_56 fl_X8_54 rfl (hM _ _ _ rfl) ?_
      refine r_iload_n 3 rfl dX8_describeArcs_59 ?_
      refine r_Vf [.int _] dX8_describeArcs_60 lk_X8_124 mb_X5_burstInputs in_X5_burstInputs se_X5_burstInputs rfl (c_X5_burstInputs_1 hM) rfl rfl rfl (Nat.le_of_ble_eq_true rfl) (rfl) ?_
      refine r_ixor dX8_describeArcs_63 ?_
      refine r_nmi (fun zv64 ze64 => ?_)
      refine r_istore (ls2 := [(5, .int zv64), (4, .int zv51), (3, .int zv38), (2, .int zv28), (1, .int (nI i)), (0, .ref 43)]) dX8_describeArcs_64 (by decide) rfl ?_
      refine r_aload_n 5 rfl dX8_describeArcs_66 ?_
      refine r_getr dX8_describeArcs_67 fl_X8_42 rfl (hM _ _ _ rfl) ?_
      refine r_iload_n 4 rfl dX8_describeArcs_70 ?_
      refine r_iload 1 rfl dX8_describeArcs_71 ?_
      refine r_iast dX8_describeArcs_73 rfl (vp_in_nI (show i < 8 by omega) (by decide)) ?_
      refine r_aload_n 5 rfl dX8_describeArcs_74 ?_
      refine r_getr dX8_describeArcs_75 fl_X8_36 rfl (hM _ _ _ rfl) ?_
      refine r_iload_n 4 rfl dX8_describeArcs_78 ?_
      refine r_iload 1 rfl dX8_describeArcs_79 ?_
      refine r_aload_n 5 rfl dX8_describeArcs_81 ?_
      refine r_getr dX8_describeArcs_82 fl_X8_54 rfl (hM _ _ _ rfl) ?_
      refine r_iload_n 4 rfl dX8_describeArcs_85 ?_
      refine r_Vf [.int _] dX8_describeArcs_86 lk_X8_124 mb_X5_burstInputs in_X5_burstInputs se_X5_burstInputs rfl (c_X5_burstInputs_1 hM) rfl rfl rfl (Nat.le_of_ble_eq_true rfl) (rfl) ?_
      refine r_Sf [.int _, .int _] dX8_describeArcs_89 lk_X8_148 mb_X2_numberOf sc_X2_numberOf rfl (c_X2_numberOf) rfl (Nat.le_of_ble_eq_true rfl) (rfl) ?_
      refine r_iast dX8_describeArcs_92 rfl (vp_in_nI (show i < 8 by omega) (by decide)) ?_
      refine r_aload_n 5 rfl dX8_describeArcs_93 ?_
      refine r_getr dX8_describeArcs_94 fl_X8_39 rfl (hM _ _ _ rfl) ?_
      refine r_iload_n 4 rfl dX8_describeArcs_97 ?_
      refine r_iload 0 rfl dX8_describeArcs_98 ?_
      refine r_iload 0 rfl dX8_describeArcs_100 ?_
      refine r_aload_n 5 rfl dX8_describeArcs_102 ?_
      refine r_aload_n 5 rfl dX8_describeArcs_103 ?_
      refine r_getr dX8_describeArcs_104 fl_X8_54 rfl (hM _ _ _ rfl) ?_
      refine r_getr dX8_describeArcs_107 fl_X8_128 rfl (hM _ _ _ rfl) ?_
      refine r_iload_n 2 rfl dX8_describeArcs_110 ?_
      refine r_Vf [.ref _, .int _] dX8_describeArcs_111 lk_X8_131 mb_X8_pointIn in_X8_pointIn se_X8_pointIn rfl (c_X8_pointIn hM rfl) rfl rfl rfl (Nat.le_of_ble_eq_true rfl) (rfl) ?_
      refine r_ixor dX8_describeArcs_114 ?_
      refine r_Sf [.int _, .int _] dX8_describeArcs_115 lk_X8_148 mb_X2_numberOf sc_X2_numberOf rfl (c_X2_numberOf) rfl (Nat.le_of_ble_eq_true rfl) (rfl) ?_
      refine r_iast dX8_describeArcs_118 rfl (vp_in_nI (show i < 8 by omega) (by decide)) ?_
      refine r_aload_n 5 rfl dX8_describeArcs_119 ?_
      refine r_getr dX8_describeArcs_120 fl_X8_45 rfl (hM _ _ _ rfl) ?_
      refine r_iload_n 4 rfl dX8_describeArcs_123 ?_
      refine r_aload_n 5 rfl dX8_describeArcs_124 ?_
      refine r_aload_n 5 rfl dX8_describeArcs_125 ?_
      refine r_getr dX8_describeArcs_126 fl_X8_54 rfl (hM _ _ _ rfl) ?_
      refine r_getr dX8_describeArcs_129 fl_X8_128 rfl (hM _ _ _ rfl) ?_
      refine r_iload_n 3 rfl dX8_describeArcs_132 ?_
      refine r_Vf [.ref _, .int _] dX8_describeArcs_133 lk_X8_153 mb_X8_valuesIn in_X8_valuesIn se_X8_valuesIn rfl (c_X8_valuesIn hM rfl) rfl rfl rfl (Nat.le_of_ble_eq_true rfl) (rfl) ?_
      refine r_iast dX8_describeArcs_136 rfl (vp_in_nI (show i < 8 by omega) (by decide)) ?_
      refine r_aload_n 5 rfl dX8_describeArcs_137 ?_
      refine r_getr dX8_describeArcs_138 fl_X8_48 rfl (hM _ _ _ rfl) ?_
      refine r_iload_n 4 rfl dX8_describeArcs_141 ?_
      refine r_aload_n 5 rfl dX8_describeArcs_142 ?_
      refine r_aload_n 5 rfl dX8_describeArcs_143 ?_
      refine r_getr dX8_describeArcs_144 fl_X8_54 rfl (hM _ _ _ rfl) ?_
      refine r_getr dX8_describeArcs_147 fl_X8_128 rfl (hM _ _ _ rfl) ?_
      refine r_iload_n 2 rfl dX8_describeArcs_150 ?_
      refine r_Vf [.ref _, .int _] dX8_describeArcs_151 lk_X8_153 mb_X8_valuesIn in_X8_valuesIn se_X8_valuesIn rfl (c_X8_valuesIn hM rfl) rfl rfl rfl (Nat.le_of_ble_eq_true rfl) (rfl) ?_
      refine r_iast dX8_describeArcs_154 rfl (vp_in_nI (show i < 8 by omega) (by decide)) ?_
      refine r_iinc (v := (nI (i + 1))) (ls2 := [(1, .int (nI (i + 1))), (5, .int zv64), (4, .int zv51), (3, .int zv38), (2, .int zv28), (0, .ref 43)]) 4 dX8_describeArcs_155 rfl (x_inc i) (by decide) rfl ?_
      refine r_goto (tgt := 2) dX8_describeArcs_158 (by decide) ?_
      have k1 : zv28 = arP MI i 0 := by rw [ze28, laC_p, hp0 hlt]
      have k2 : zv38 = arP MI i 1 := by rw [ze38, laC_p, hp1 hlt]
      have m2 : laC (dsM MI V i) t 2 = MI 2 := by rw [laC_b t (b := 2) (by decide), hc2]
      have m44 : laC (dsM MI V i) t 44 = t.2.1 := rfl
      have m45 : laC (dsM MI V i) t 45 = t.2.2.1 := rfl
      have k3 : zv51 = pointV t.2.1 (MI 2) (arP MI i 0) := by rw [ze51, k1, m2, m44]
      have k4 : zv64 = zv51 ^^^ (arP MI i 2 ||| arP MI i 3) := by rw [ze64, hbu hlt _ (fun x y => by rw [laC_p, dsM_p])]
      have k5 := hbu hlt (u2 (laC (dsM MI V i) t) 53 (nI i).toNatClampNeg zv51) (fun x y => by rw [partV_u2 (by decide), laC_p, dsM_p])
      refine r_mem ?_ rfl rfl (r_sub [0, 5] rfl (ih hlt))
      rw [k5]
      simp (discharger := decide) only [u2_row]
      rw [m2, m44, m45, k1, k2, nI_clamp (by omega)]
      have w1 : V 51 i = numC zv51 (arP MI i 2 ||| arP MI i 3) 6 := by rw [hV, k3]; rfl
      have w2 : V 52 i = numC zv64 (zv64 ^^^ pointV t.2.1 (MI 2) (arP MI i 1)) 6 := by rw [hV, k4, k3]; rfl
      have w3 : V 53 i = zv51 := by rw [hV, k3]; rfl
      have w4 : V 54 i = valV t.2.2.1 (MI 2) (arP MI i 0) := by rw [hV]; rfl
      have w5 : V 55 i = valV t.2.2.1 (MI 2) (arP MI i 1) := by rw [hV]; rfl
      rw [← w1, ← w2, ← w4, ← w5, ← w3]
      clear w1 w2 w3 w4 w5 k1 k2 k3 k4 k5 m2 m44 m45 ih hp hp0 hp1 hbu hG hAl hc2 hV
      funext b j
      simp only [u2, laC, dsM]
      grind (splits := 40)
  refine r_iconst (v := 0) rfl dX8_describeArcs_0 ?_
  refine r_istore_n (ls2 := [(1, .int 0), (0, .ref 43)]) dX8_describeArcs_1 (by decide) rfl ?_
  refine r_mem ?_ rfl rfl (loop 0 (by omega))
  funext b j
  simp only [laC, dsM]
  grind
set_option maxRecDepth 100000 in
theorem c_X8_look (hM : x_Lay MR) (hSt : x_St X) {S A : Nat} (hS : S ≤ 6) (hSr : MI 1 1 = nI S) (hA : A ≤ 8) (hAr : MI 1 6 = nI A) {s : Dp × Tg} (hs : s = lkD (arP MI) (MI 2) S A (MI 1 3) (MI 1 4) (MI 1 5) (ML 49, ML 50) (tgC MI)) : Cf X yX8_look cX8_look 1 none 5 [.ref 43] n SH MI ML MR none (laC (if s.2.2.2.2.2.1 = 0 then dsM MI (dscV (arP MI) (MI 2) s.2) A else MI) s.2) (layD ML 49 50 s.1) MR := by
  refine Ct_of (by decide) (Nat.le_of_ble_eq_true rfl) (fun G hG => ?_)
  have hev : ∀ t, laC MI t 43 6 = t.2.2.2.2.1 := fun t => rfl
  have j59 : RW X G RX8 cX8_look 1 (x_rm 5 0 0) n SH (laC MI s.2) (layD ML 49 50 s.1) MR 0 0 59 [(0, .ref 43)] [] := by
    refine r_aload_n 0 rfl dX8_look_59 ?_
    refine r_geti dX8_look_60 fl_X8_58 rfl ?_
    refine r_ifne (tgt := 70) dX8_look_63 (by decide) (fun zh63 => ?_) (fun zh63 => ?_)
    · exact r_vret hG dX8_look_70 (⟨rfl, by rw [hev] at zh63; simp only [zh63, if_true, if_false], rfl, rfl⟩)
    · refine r_aload_n 0 rfl dX8_look_66 ?_
      refine r_Vn [] dX8_look_67 lk_X8_76 mb_X8_describeArcs in_X8_describeArcs se_X8_describeArcs rfl (t_describeArcs hM hA hAr) rfl rfl rfl (Nat.le_of_ble_eq_true rfl) (rfl) ?_
      exact r_vret hG dX8_look_70 (⟨rfl, by rw [hev] at zh63; simp only [zh63, if_true, if_false], rfl, rfl⟩)
  have j48 : ∀ t, t = lk4 (arP MI) (MI 2) S A (MI 1 3) (MI 1 4) (MI 1 5) (tgC MI) → RW X G RX8 cX8_look 1 (x_rm 5 0 0) n SH (laC MI t) ML MR 0 0 48 [(0, .ref 43)] [] := by
    intro t ht
    unfold lkD at hs
    rw [← ht] at hs
    refine r_aload_n 0 rfl dX8_look_48 ?_
    refine r_geti dX8_look_49 fl_X8_58 rfl ?_
    refine r_ifne (tgt := 59) dX8_look_52 (by decide) (fun zh52 => ?_) (fun zh52 => ?_)
    · first
        | (rw [← hs]; exact j59)
        | (rw [hev] at zh52; rw [if_neg zh52] at hs; exact r_mem (by rw [hs]) (by rw [hs]; exact layD_id.symm) rfl j59)
    · rw [hev] at zh52
      rw [if_pos zh52] at hs
      refine r_aload_n 0 rfl dX8_look_55 ?_
      refine r_Vn [] dX8_look_56 lk_X8_73 mb_X8_seekClash in_X8_seekClash se_X8_seekClash rfl (t_seekClash hM hSt hS hSr hA hAr zh52) rfl rfl rfl (Nat.le_of_ble_eq_true rfl) (rfl) ?_
      first
        | (rw [← hs]; exact j59)
        | (rw [hev] at zh52; rw [if_neg zh52] at hs; exact r_mem (by rw [hs]) (by rw [hs]; exact layD_id.symm) rfl j59)
  have j37 : ∀ t, lk4 (arP MI) (MI 2) S A (MI 1 3) (MI 1 4) (MI 1 5) (tgC MI) = cnd t (twT (MI 2) S) → RW X G RX8 cX8_look 1 (x_rm 5 0 0) n SH (laC MI t) ML MR 0 0 37 [(0, .ref 43)] [] := by
    intro t ht
    refine r_aload_n 0 rfl dX8_look_37 ?_
    refine r_geti dX8_look_38 fl_X8_58 rfl ?_
    refine r_ifne (tgt := 48) dX8_look_41 (by decide) (fun zh41 => ?_) (fun zh41 => ?_)
    · rw [hev] at zh41
      first
        | exact j48 _ (by rw [ht, cnd_pos zh41])
        | exact j48 _ (by rw [ht, cnd_neg zh41])
    · refine r_aload_n 0 rfl dX8_look_44 ?_
      refine r_Vn [] dX8_look_45 lk_X8_70 mb_X8_seekTwins in_X8_seekTwins se_X8_seekTwins rfl (t_seekTwins hM hS hSr) rfl rfl rfl (Nat.le_of_ble_eq_true rfl) (rfl) ?_
      rw [hev] at zh41
      first
        | exact j48 _ (by rw [ht, cnd_pos zh41])
        | exact j48 _ (by rw [ht, cnd_neg zh41])
  have j26 : ∀ t, lk4 (arP MI) (MI 2) S A (MI 1 3) (MI 1 4) (MI 1 5) (tgC MI) = cnd (cnd t (inT (arP MI) A A)) (twT (MI 2) S) → RW X G RX8 cX8_look 1 (x_rm 5 0 0) n SH (laC MI t) ML MR 0 0 26 [(0, .ref 43)] [] := by
    intro t ht
    refine r_aload_n 0 rfl dX8_look_26 ?_
    refine r_geti dX8_look_27 fl_X8_58 rfl ?_
    refine r_ifne (tgt := 37) dX8_look_30 (by decide) (fun zh30 => ?_) (fun zh30 => ?_)
    · rw [hev] at zh30
      first
        | exact j37 _ (by rw [ht, cnd_pos zh30])
        | exact j37 _ (by rw [ht, cnd_neg zh30])
    · refine r_aload_n 0 rfl dX8_look_33 ?_
      refine r_Vn [] dX8_look_34 lk_X8_67 mb_X8_seekInner in_X8_seekInner se_X8_seekInner rfl (t_seekInner hM hA hAr) rfl rfl rfl (Nat.le_of_ble_eq_true rfl) (rfl) ?_
      rw [hev] at zh30
      first
        | exact j37 _ (by rw [ht, cnd_pos zh30])
        | exact j37 _ (by rw [ht, cnd_neg zh30])
  have ini : u2 (u2 MI 43 6 0) 43 7 (-2) = laC MI ((tgC MI).1, (tgC MI).2.1, (tgC MI).2.2.1, (tgC MI).2.2.2.1, 0, -2) := by
    funext b i
    simp only [u2, laC, tgC]
    grind
  refine r_aload_n 0 rfl dX8_look_0 ?_
  refine r_iconst (v := 0) rfl dX8_look_1 ?_
  refine r_puti dX8_look_2 fl_X8_58 rfl rfl rfl ?_
  refine r_aload_n 0 rfl dX8_look_5 ?_
  refine r_bipush (v := (-2)) rfl dX8_look_6 ?_
  refine r_puti dX8_look_8 fl_X8_32 rfl rfl rfl ?_
  refine r_mem ini rfl rfl ?_
  refine r_aload_n 0 rfl dX8_look_11 ?_
  refine r_Vn [] dX8_look_12 lk_X8_61 mb_X8_goAlong in_X8_goAlong se_X8_goAlong rfl (t_goAlong hM hA hAr) rfl rfl rfl (Nat.le_of_ble_eq_true rfl) (rfl) ?_
  refine r_aload_n 0 rfl dX8_look_15 ?_
  refine r_geti dX8_look_16 fl_X8_58 rfl ?_
  refine r_ifne (tgt := 26) dX8_look_19 (by decide) (fun zh19 => ?_) (fun zh19 => ?_)
  · rw [hev] at zh19
    first
      | exact j26 _ (by unfold lk4; rw [cnd_pos zh19])
      | exact j26 _ (by unfold lk4; rw [cnd_neg zh19])
  · refine r_aload_n 0 rfl dX8_look_22 ?_
    refine r_Vn [] dX8_look_23 lk_X8_64 mb_X8_seekValueless in_X8_seekValueless se_X8_seekValueless rfl (t_seekValueless hM hS hSr) rfl rfl rfl (Nat.le_of_ble_eq_true rfl) (rfl) ?_
    rw [hev] at zh19
    first
      | exact j26 _ (by unfold lk4; rw [cnd_pos zh19])
      | exact j26 _ (by unfold lk4; rw [cnd_neg zh19])
end study5

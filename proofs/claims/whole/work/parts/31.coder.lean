/-! Coder: 60; codes 61, levels 62, first 63, found 60 4, searched 60 5; level i: 64 + 3 i, its rows 65 + 3 i, 66 + 3 i -/
def upA (I O C : Nat → Int32) (P : Nat → Nat → Int32) (s : Int32) : Nat → Dp → Dp
  | 0, q => q
  | k + 1, q => if maxI (P k 0) (P k 1) = s then demA I O C (P k 0) (P k 1) (P k 2 ||| P k 3) (upA I O C P s k q) else upA I O C P s k q
def dmU (I O C : Nat → Int32) (P : Nat → Nat → Int32) (s : Int32) (A : Nat) (q : Dp) : Dp := upA I O C P s A (demS I O C s q)
abbrev Kt : Type := (Nat → Int32) × Int32 × (Nat → Int32) × (Nat → Dp)
def laK (MI : Nat → Nat → Int32) (k : Kt) : Nat → Nat → Int32 := sr (sr (u2 MI 60 4 k.2.1) 61 k.1) 63 k.2.2.1
def laV (ML : Nat → Nat → Int64) (k : Kt) : Nat → Nat → Int64 := fun b j => if 64 < b ∧ b ≤ 84 ∧ b % 3 = 2 then (k.2.2.2 ((b - 65) / 3)).1 j else if 64 < b ∧ b ≤ 84 ∧ b % 3 = 0 then (k.2.2.2 ((b - 66) / 3)).2 j else ML b j
theorem laK_b {MI : Nat → Nat → Int32} (k : Kt) {b : Nat} (h0 : b ≠ 60) (h1 : b ≠ 61) (h2 : b ≠ 63) : laK MI k b = MI b := by
  unfold laK
  rw [sr_ne _ _ h2, sr_ne _ _ h1, u2_row _ _ h0]
theorem laK_c {MI : Nat → Nat → Int32} (k : Kt) : laK MI k 61 = k.1 := by unfold laK; rw [sr_ne _ _ (by decide), sr_eq]
theorem laK_f {MI : Nat → Nat → Int32} (k : Kt) : laK MI k 63 = k.2.2.1 := by unfold laK; rw [sr_eq]
theorem laK_n {MI : Nat → Nat → Int32} (k : Kt) : laK MI k 60 4 = k.2.1 := by unfold laK; rw [sr_ne _ _ (by decide), sr_ne _ _ (by decide), u2_eq]
theorem laK_p {MI : Nat → Nat → Int32} (k : Kt) (x y : Int32) : partV (laK MI k) 1 x y = partV MI 1 x y := by
  unfold partV
  split
  · rename_i h
    have hx := inR_t.mp h.1
    have := clampLt (N := 8) (by decide) hx.1 hx.2
    rw [laK_b k (by omega) (by omega) (by omega)]
  · rfl
theorem laK_bu {MI : Nat → Nat → Int32} (k : Kt) (x : Int32) : burstV (laK MI k) 1 x = burstV MI 1 x := by unfold burstV; rw [laK_p, laK_p]
theorem laV_1 {ML : Nat → Nat → Int64} (k : Kt) {i : Nat} (h : i ≤ 6) : laV ML k (65 + 3 * i) = (k.2.2.2 i).1 := by
  funext j
  unfold laV
  rw [if_pos ⟨by omega, by omega, by omega⟩, show (65 + 3 * i - 65) / 3 = i by omega]
theorem laV_2 {ML : Nat → Nat → Int64} (k : Kt) {i : Nat} (h : i ≤ 6) : laV ML k (66 + 3 * i) = (k.2.2.2 i).2 := by
  funext j
  unfold laV
  rw [if_neg (by omega), if_pos ⟨by omega, by omega, by omega⟩, show (66 + 3 * i - 66) / 3 = i by omega]
theorem laV_set {ML : Nat → Nat → Int64} (k : Kt) {i : Nat} (h : i ≤ 6) (q : Dp) : layD (laV ML k) (65 + 3 * i) (66 + 3 * i) q = laV ML (k.1, k.2.1, k.2.2.1, up k.2.2.2 i q) := by
  funext b
  by_cases h2 : b = 66 + 3 * i
  · subst h2
    rw [layD_o, laV_2 _ h]
    simp [up]
  · by_cases h1 : b = 65 + 3 * i
    · subst h1
      rw [layD_z (by omega), laV_1 _ h]
      simp [up]
    · rw [layD_b _ h1 h2]
      funext j
      unfold laV
      by_cases c1 : 64 < b ∧ b ≤ 84 ∧ b % 3 = 2
      · rw [if_pos c1, if_pos c1]
        have : ¬ (b - 65) / 3 = i := by omega
        simp [up, this]
      · rw [if_neg c1, if_neg c1]
        by_cases c2 : 64 < b ∧ b ≤ 84 ∧ b % 3 = 0
        · rw [if_pos c2, if_pos c2]
          have : ¬ (b - 66) / 3 = i := by omega
          simp [up, this]
        · rw [if_neg c2, if_neg c2]
theorem laK_set {MI : Nat → Nat → Int32} (k : Kt) (s : Nat) (x : Int32) : u2 (laK MI k) 61 s x = laK MI (up k.1 s x, k.2) := by
  funext b j
  simp only [u2, laK, sr, up]
  grind
theorem De_lv {MR : Nat → Nat → Option Nat} (hM : x_Lay MR) {i : Nat} (h : i ≤ 6) : x_De MR (64 + 3 * i) (65 + 3 * i) (66 + 3 * i) := by
  rcases (show i = 0 ∨ i = 1 ∨ i = 2 ∨ i = 3 ∨ i = 4 ∨ i = 5 ∨ i = 6 by omega) with h | h | h | h | h | h | h <;> subst h <;> exact ⟨rfl, hM _ _ _ rfl, hM _ _ _ rfl, rfl, rfl, by decide⟩
theorem lvR {MR : Nat → Nat → Option Nat} (hM : x_Lay MR) {i : Nat} (h : i ≤ 6) : MR 62 i = some (64 + 3 * i) := by
  rcases (show i = 0 ∨ i = 1 ∨ i = 2 ∨ i = 3 ∨ i = 4 ∨ i = 5 ∨ i = 6 by omega) with h | h | h | h | h | h | h <;> subst h <;> exact hM _ _ _ rfl
def kpK (k : Kt) : Kt := (k.1, k.2.1 + 1, (if k.2.1 = 0 then copyTo k.2.2.1 k.1 6 else k.2.2.1), k.2.2.2)
def stpK (I O : Nat → Int32) (P : Nat → Nat → Int32) (A s c : Nat) (k : Kt) : Kt := (up k.1 s (nI c), k.2.1, k.2.2.1, up k.2.2.2 (s + 1) (dmU I O (up k.1 s (nI c)) P (nI s) A (copyTo (k.2.2.2 (s + 1)).1 (k.2.2.2 s).1 5, copyTo (k.2.2.2 (s + 1)).2 (k.2.2.2 s).2 5)))
def lpK (f : Nat → Kt → Kt) : Nat → Kt → Kt
  | 0, k => k
  | m + 1, k => f m (lpK f m k)
/-- assign as the code has it: d STATES more could come behind s -/
def asK (I O : Nat → Int32) (P : Nat → Nat → Int32) (A S N : Nat) : Nat → Nat → Kt → Kt
  | 0, _, k => kpK k
  | d + 1, s, k => if s < S then lpK (fun c k => if clashV ((stpK I O P A s c k).2.2.2 (s + 1)).1 ((stpK I O P A s c k).2.2.2 (s + 1)).2 then stpK I O P A s c k else asK I O P A S N d (s + 1) (stpK I O P A s c k)) N k else kpK k
section coder
variable {X : xG} {n : Nat} {MI : Nat → Nat → Int32} {ML : Nat → Nat → Int64} {MR : Nat → Nat → Option Nat}
set_option maxRecDepth 100000 in
theorem c_X1_demandUpTo (hM : x_Lay MR) (hSt : x_St X) {a z o : Nat} (hD : x_De MR a z o) {A : Nat} (hA : A ≤ 8) (hAr : MI 1 6 = nI A) {s : Int32} : Cf X yX1_demandUpTo cX1_demandUpTo 5 none 4 [.ref 60, .ref a, .int s] n SH MI ML MR none MI (layD ML z o (dmU (MI 44) (MI 45) (MI 61) (arP MI) s A (ML z, ML o))) MR := by
  have zo := hD.2.2.2.2.2
  refine Ct_of (by decide) (Nat.le_of_ble_eq_true rfl) (fun G hG => ?_)
  have hp0 : ∀ i, i < A → partV MI 1 (nI i) 0 = arP MI i 0 := fun i h => arP_nI (j := 0) (by omega) (by decide)
  have hp1 : ∀ i, i < A → partV MI 1 (nI i) 1 = arP MI i 1 := fun i h => arP_nI (j := 1) (by omega) (by decide)
  have hbu : ∀ i, i < A → burstV MI 1 (nI i) = (arP MI i 2 ||| arP MI i 3) := fun i h => by unfold burstV; rw [show partV MI 1 (nI i) 2 = arP MI i 2 from arP_nI (j := 2) (by omega) (by decide), show partV MI 1 (nI i) 3 = arP MI i 3 from arP_nI (j := 3) (by omega) (by decide)]
  obtain ⟨q0, hq0⟩ : ∃ q0 : Nat → Dp, q0 = fun i => upA (MI 44) (MI 45) (MI 61) (arP MI) s i (demS (MI 44) (MI 45) (MI 61) s (ML z, ML o)) := ⟨_, rfl⟩
  have hqs : ∀ i, q0 (i + 1) = if maxI (arP MI i 0) (arP MI i 1) = s then demA (MI 44) (MI 45) (MI 61) (arP MI i 0) (arP MI i 1) (arP MI i 2 ||| arP MI i 3) (q0 i) else q0 i := fun i => by rw [hq0]; rfl
  have hd : dmU (MI 44) (MI 45) (MI 61) (arP MI) s A (ML z, ML o) = q0 A := by rw [hq0]; rfl
  rw [hd] at hG
  have loop : ∀ i, i ≤ A → RW X G RX1 cX1_demandUpTo 5 (x_rm 4 0 0) n SH MI (layD ML z o (q0 i)) MR 0 0 24 [(4, .int (nI i)), (3, .ref 1), (0, .ref 60), (1, .ref a), (2, .int s)] [] := by
    refine bwd (fun i hi ih => ?_)
    refine r_iload 0 rfl dX1_demandUpTo_24 ?_
    refine r_aload_n 1 rfl dX1_demandUpTo_26 ?_
    refine r_geti dX1_demandUpTo_27 fl_X1_73 rfl ?_
    refine r_icmpge (tgt := 74) dX1_demandUpTo_30 (by decide) (fun zh30 => ?_) (fun zh30 => ?_)
    · rw [hAr] at zh30
      obtain rfl : i = A := by have := geL (k := A) (by omega) (by omega) zh30; omega
      exact r_vret hG dX1_demandUpTo_74 (⟨rfl, rfl, rfl, rfl⟩)
    · rw [hAr] at zh30
      have hlt : i < A := ltL (by omega) zh30
      refine r_aload_n 1 rfl dX1_demandUpTo_33 ?_
      refine r_iload 0 rfl dX1_demandUpTo_34 ?_
      refine r_iconst (v := 0) rfl dX1_demandUpTo_36 ?_
      refine r_Vf [.int _, .int _] dX1_demandUpTo_37 lk_X1_76 mb_X5_part in_X5_part se_X5_part rfl (c_X5_part_1 hM) rfl rfl rfl (Nat.le_of_ble_eq_true rfl) (rfl) ?_
      refine r_aload_n 1 rfl dX1_demandUpTo_40 ?_
      refine r_iload 0 rfl dX1_demandUpTo_41 ?_
      refine r_iconst (v := 1) rfl dX1_demandUpTo_43 ?_
      refine r_Vf [.int _, .int _] dX1_demandUpTo_44 lk_X1_76 mb_X5_part in_X5_part se_X5_part rfl (c_X5_part_1 hM) rfl rfl rfl (Nat.le_of_ble_eq_true rfl) (rfl) ?_
      refine r_mmax dX1_demandUpTo_47 lmx_X1_80 (Nat.le_of_ble_eq_true rfl) rfl ?_
      refine r_iload_n 4 rfl dX1_demandUpTo_50 ?_
      refine r_icmpne (tgt := 68) dX1_demandUpTo_51 (by decide) (fun zh51 => ?_) (fun zh51 => ?_)
      · try rw [hp0 i hlt, hp1 i hlt] at zh51
        refine r_iinc (v := (nI (i + 1))) (ls2 := [(4, .int (nI (i + 1))), (3, .ref 1), (0, .ref 60), (1, .ref a), (2, .int s)]) 0 dX1_demandUpTo_68 rfl (x_inc i) (by decide) rfl ?_
        refine r_goto (tgt := 24) dX1_demandUpTo_71 (by decide) ?_
        first
          | (refine r_mem rfl ?_ rfl (ih hlt)
             rw [hqs, if_pos (by simpa [maxI] using zh51), layD_z zo, layD_o, layD2, hp0 i hlt, hp1 i hlt, hbu i hlt]; done)
          | (refine r_mem rfl ?_ rfl (ih hlt)
             rw [hqs, if_neg (by simpa [maxI] using zh51)]; done)
      · rw [hp0 i hlt, hp1 i hlt] at zh51
        refine r_aload_n 2 rfl dX1_demandUpTo_54 ?_
        refine r_getr dX1_demandUpTo_55 fl_X1_24 rfl (hM _ _ _ rfl) ?_
        refine r_aload_n 3 rfl dX1_demandUpTo_58 ?_
        refine r_aload_n 2 rfl dX1_demandUpTo_59 ?_
        refine r_getr dX1_demandUpTo_60 fl_X1_9 rfl (hM _ _ _ rfl) ?_
        refine r_iload 0 rfl dX1_demandUpTo_63 ?_
        refine r_Vn [.ref _, .ref _, .int _] dX1_demandUpTo_65 lk_X1_85 mb_X8_demandByArc in_X8_demandByArc se_X8_demandByArc rfl (c_X8_demandByArc hM hSt hD rfl) rfl rfl rfl (Nat.le_of_ble_eq_true rfl) (rfl) ?_
        try rw [hp0 i hlt, hp1 i hlt] at zh51
        refine r_iinc (v := (nI (i + 1))) (ls2 := [(4, .int (nI (i + 1))), (3, .ref 1), (0, .ref 60), (1, .ref a), (2, .int s)]) 0 dX1_demandUpTo_68 rfl (x_inc i) (by decide) rfl ?_
        refine r_goto (tgt := 24) dX1_demandUpTo_71 (by decide) ?_
        first
          | (refine r_mem rfl ?_ rfl (ih hlt)
             rw [hqs, if_pos (by simpa [maxI] using zh51), layD_z zo, layD_o, layD2, hp0 i hlt, hp1 i hlt, hbu i hlt]; done)
          | (refine r_mem rfl ?_ rfl (ih hlt)
             rw [hqs, if_neg (by simpa [maxI] using zh51)]; done)
  refine r_aload_n 0 rfl dX1_demandUpTo_0 ?_
  refine r_getr dX1_demandUpTo_1 fl_X1_24 rfl (hM _ _ _ rfl) ?_
  refine r_aload_n 1 rfl dX1_demandUpTo_4 ?_
  refine r_aload_n 0 rfl dX1_demandUpTo_5 ?_
  refine r_getr dX1_demandUpTo_6 fl_X1_9 rfl (hM _ _ _ rfl) ?_
  refine r_iload_n 2 rfl dX1_demandUpTo_9 ?_
  refine r_Vn [.ref _, .ref _, .int _] dX1_demandUpTo_10 lk_X1_69 mb_X8_demandByState in_X8_demandByState se_X8_demandByState rfl (c_X8_demandByState hM hD rfl) rfl rfl rfl (Nat.le_of_ble_eq_true rfl) (rfl) ?_
  refine r_aload_n 0 rfl dX1_demandUpTo_13 ?_
  refine r_getr dX1_demandUpTo_14 fl_X1_24 rfl (hM _ _ _ rfl) ?_
  refine r_getr dX1_demandUpTo_17 fl_X1_43 rfl (hM _ _ _ rfl) ?_
  refine r_astore_n (ls2 := [(3, .ref 1), (0, .ref 60), (1, .ref a), (2, .int s)]) dX1_demandUpTo_20 (by decide) rfl ?_
  refine r_iconst (v := 0) rfl dX1_demandUpTo_21 ?_
  refine r_istore (ls2 := [(4, .int 0), (3, .ref 1), (0, .ref 60), (1, .ref a), (2, .int s)]) dX1_demandUpTo_22 (by decide) rfl ?_
  refine r_mem rfl ?_ rfl (loop 0 (by omega))
  rw [hq0]
  rfl
set_option maxRecDepth 100000 in
theorem c_X1_keep (hM : x_Lay MR) {k : Kt} : Cf X yX1_keep cX1_keep 2 none 1 [.ref 60] n SH (laK MI k) ML MR none (laK MI (kpK k)) ML MR := by
  refine Ct_of (by decide) (Nat.le_of_ble_eq_true rfl) (fun G hG => ?_)
  have hend : ∀ F, F = (kpK k).2.2.1 → u2 (laK MI (k.1, k.2.1, F, k.2.2.2)) 60 4 (k.2.1 + 1) = laK MI (kpK k) := fun F hF => by
    rw [hF]
    funext b j
    simp only [u2, laK, sr, kpK]
    grind
  have loop : k.2.1 = 0 → ∀ i, i ≤ 6 → RW X G RX1 cX1_keep 2 (x_rm 1 0 0) n SH (laK MI (k.1, k.2.1, copyTo k.2.2.1 k.1 i, k.2.2.2)) ML MR 0 0 9 [(1, .int (nI i)), (0, .ref 60)] [] := by
    intro hz
    refine bwd (fun i hi ih => ?_)
    refine r_iload_n 0 rfl dX1_keep_9 ?_
    refine r_bipush (v := 6) rfl dX1_keep_10 ?_
    refine r_icmpge (tgt := 33) dX1_keep_12 (by decide) (fun zh12 => ?_) (fun zh12 => ?_)
    · obtain rfl : i = 6 := by have := geL (k := 6) (by decide) (by omega) zh12; omega
      refine r_aload_n 1 rfl dX1_keep_33 ?_
      refine r_dup rfl dX1_keep_34 ?_
      refine r_geti dX1_keep_35 fl_X1_33 rfl ?_
      refine r_iconst (v := 1) rfl dX1_keep_38 ?_
      refine r_iadd dX1_keep_39 ?_
      refine r_puti dX1_keep_40 fl_X1_33 rfl rfl rfl ?_
      exact r_vret hG dX1_keep_43 (⟨rfl, by rw [laK_n]; exact hend _ (by unfold kpK; rw [if_pos hz]), rfl, rfl⟩)
    · have hlt : i < 6 := ltL (by omega) zh12
      refine r_aload_n 1 rfl dX1_keep_15 ?_
      refine r_getr dX1_keep_16 fl_X1_21 rfl (hM _ _ _ rfl) ?_
      refine r_iload_n 0 rfl dX1_keep_19 ?_
      refine r_aload_n 1 rfl dX1_keep_20 ?_
      refine r_getr dX1_keep_21 fl_X1_9 rfl (hM _ _ _ rfl) ?_
      refine r_iload_n 0 rfl dX1_keep_24 ?_
      refine r_iald dX1_keep_25 rfl (vp_in_nI hlt (by decide)) ?_
      refine r_iast dX1_keep_26 rfl (vp_in_nI hlt (by decide)) ?_
      refine r_iinc (v := (nI (i + 1))) (ls2 := [(1, .int (nI (i + 1))), (0, .ref 60)]) 0 dX1_keep_27 rfl (x_inc i) (by decide) rfl ?_
      refine r_goto (tgt := 9) dX1_keep_30 (by decide) ?_
      refine r_mem ?_ rfl rfl (ih hlt)
      rw [nI_clamp (by omega), laK_c]
      funext b j
      simp only [u2, laK, sr, copyTo]
      grind
  refine r_aload_n 0 rfl dX1_keep_0 ?_
  refine r_geti dX1_keep_1 fl_X1_33 rfl ?_
  refine r_ifne (tgt := 33) dX1_keep_4 (by decide) (fun zh4 => ?_) (fun zh4 => ?_)
  · rw [laK_n] at zh4
    refine r_aload_n 0 rfl dX1_keep_33 ?_
    refine r_dup rfl dX1_keep_34 ?_
    refine r_geti dX1_keep_35 fl_X1_33 rfl ?_
    refine r_iconst (v := 1) rfl dX1_keep_38 ?_
    refine r_iadd dX1_keep_39 ?_
    refine r_puti dX1_keep_40 fl_X1_33 rfl rfl rfl ?_
    exact r_vret hG dX1_keep_43 (⟨rfl, by rw [laK_n]; exact hend k.2.2.1 (by unfold kpK; rw [if_neg zh4]), rfl, rfl⟩)
  · rw [laK_n] at zh4
    refine r_iconst (v := 0) rfl dX1_keep_7 ?_
    refine r_istore_n (ls2 := [(1, .int 0), (0, .ref 60)]) dX1_keep_8 (by decide) rfl ?_
    refine r_mem ?_ rfl rfl (loop zh4 0 (by omega))
    rfl
theorem t_takeLv (hM : x_Lay MR) {k : Kt} {s : Nat} (hs : s < 6) : Cf X yX3_takeFrom cX3_takeFrom 3 none 1 [.ref (64 + 3 * (s + 1)), .ref (64 + 3 * s)] n SH (laK MI k) (laV ML k) MR none (laK MI k) (laV ML (k.1, k.2.1, k.2.2.1, up k.2.2.2 (s + 1) (copyTo (k.2.2.2 (s + 1)).1 (k.2.2.2 s).1 5, copyTo (k.2.2.2 (s + 1)).2 (k.2.2.2 s).2 5))) MR := by
  have h := c_X3_takeFrom (X := X) (n := n) (MI := laK MI k) (ML := laV ML k) (MR := MR) (De_lv hM (i := s + 1) (by omega)) (De_lv hM (i := s) (by omega)) (by omega) (by omega) (by omega) (by omega)
  rw [laV_1 _ (by omega), laV_1 _ (by omega), laV_2 _ (by omega), laV_2 _ (by omega)] at h
  rw [← laV_set (ML := ML) k (i := s + 1) (by omega)]
  exact h
theorem t_demandLv (hM : x_Lay MR) (hSt : x_St X) {A : Nat} (hA : A ≤ 8) (hAr : MI 1 6 = nI A) {k : Kt} {i : Nat} (hi : i ≤ 6) {s : Int32} : Cf X yX1_demandUpTo cX1_demandUpTo 5 none 4 [.ref 60, .ref (64 + 3 * i), .int s] n SH (laK MI k) (laV ML k) MR none (laK MI k) (laV ML (k.1, k.2.1, k.2.2.1, up k.2.2.2 i (dmU (MI 44) (MI 45) k.1 (arP MI) s A (k.2.2.2 i)))) MR := by
  have h := c_X1_demandUpTo (X := X) (n := n) (MI := laK MI k) (ML := laV ML k) (MR := MR) (s := s) hM hSt (De_lv hM (i := i) hi) hA (by rw [laK_b _ (by decide) (by decide) (by decide)]; exact hAr)
  have hP : ∀ x y : Nat, dmU (MI 44) (MI 45) k.1 (arP (laK MI k)) s A (k.2.2.2 i) = dmU (MI 44) (MI 45) k.1 (arP MI) s A (k.2.2.2 i) := fun _ _ => by
    have e : ∀ m, m ≤ 8 → ∀ q, upA (MI 44) (MI 45) k.1 (arP (laK MI k)) s m q = upA (MI 44) (MI 45) k.1 (arP MI) s m q := by
      intro m
      induction m with
      | zero => intro _ q; rfl
      | succ m ih =>
        intro hm q
        have e2 : arP (laK MI k) m = arP MI m := by unfold arP; rw [laK_b _ (by omega) (by omega) (by omega)]
        rw [upA, upA, ih (by omega), e2]
    unfold dmU
    exact e A hA _
  rw [laV_1 _ hi, laV_2 _ hi, laV_set _ hi, laK_c, laK_b _ (b := 44) (by decide) (by decide) (by decide), laK_b _ (b := 45) (by decide) (by decide) (by decide), show ((k.2.2.2 i).1, (k.2.2.2 i).2) = k.2.2.2 i from rfl, hP 0 0] at h
  exact h
theorem t_clashLv (hM : x_Lay MR) {k : Kt} {i : Nat} (hi : i ≤ 6) : Cf X yX3_clash cX3_clash 2 (some .boolean) 1 [.ref (64 + 3 * i)] n SH (laK MI k) (laV ML k) MR (some (.int (if clashV (k.2.2.2 i).1 (k.2.2.2 i).2 then 1 else 0))) (laK MI k) (laV ML k) MR := by
  have h := c_X3_clash (X := X) (n := n) (MI := laK MI k) (ML := laV ML k) (MR := MR) (De_lv hM (i := i) hi)
  rw [laV_1 _ hi, laV_2 _ hi] at h
  exact h
theorem kpK_V {ML : Nat → Nat → Int64} (k : Kt) : laV ML (kpK k) = laV ML k := rfl
theorem up_up {α : Type} (f : Nat → α) (i : Nat) (x y : α) : up (up f i x) i y = up f i y := by
  funext j
  simp only [up]
  grind
theorem up_eq {α : Type} (f : Nat → α) (i : Nat) (x : α) : up f i x i = x := if_pos rfl
theorem up_ne {α : Type} (f : Nat → α) {i j : Nat} (x : α) (h : ¬ j = i) : up f i x j = f j := if_neg h
set_option maxRecDepth 100000 in
theorem c_X1_assign (hM : x_Lay MR) (hSt : x_St X) {A S N : Nat} (hA : A ≤ 8) (hAr : MI 1 6 = nI A) (hS : S ≤ 6) (hSr : MI 1 1 = nI S) (hN : N ≤ 4) : ∀ (d s : Nat), d + s = 6 → ∀ k : Kt, Cf X yX1_assign cX1_assign 5 none (5 + d) [.ref 60, .int (nI s), .int (nI N)] n SH (laK MI k) (laV ML k) MR none (laK MI (asK (MI 44) (MI 45) (arP MI) A S N d s k)) (laV ML (asK (MI 44) (MI 45) (arP MI) A S N d s k)) MR := by
  intro d
  induction d with
  | zero =>
    intro s hs k
    obtain rfl : s = 6 := by omega
    refine Ct_of (by decide) (Nat.le_of_ble_eq_true rfl) (fun G hG => ?_)
    refine r_iload_n 1 rfl dX1_assign_0 ?_
    refine r_iflt (tgt := 24) dX1_assign_1 (by decide) (fun zh1 => ?_) (fun zh1 => ?_)
    · exact absurd zh1 (fun q => absurd q (by decide))
    refine r_iload_n 1 rfl dX1_assign_4 ?_
    refine r_bipush (v := 6) rfl dX1_assign_5 ?_
    refine r_icmpge (tgt := 24) dX1_assign_7 (by decide) (fun zh7 => ?_) (fun zh7 => ?_)
    rotate_left
    · exact absurd zh7 (fun q => q (by decide))
    refine r_aload_n 0 rfl dX1_assign_24 ?_
    refine r_Vn [] dX1_assign_25 lk_X1_54 mb_X1_keep in_X1_keep se_X1_keep rfl (c_X1_keep hM) rfl rfl rfl (Nat.le_of_ble_eq_true rfl) (rfl) ?_
    exact r_vret hG dX1_assign_28 (⟨rfl, rfl, rfl, rfl⟩)
  | succ d ihd =>
    intro s hs k
    refine Ct_of (by decide) (Nat.le_of_ble_eq_true rfl) (fun G hG => ?_)
    have hs0 : ¬ nI s < 0 := fun q => absurd ((nI_ltI (a := s) (b := 0) (by omega) (by decide)).mp q) (by omega)
    have hs6 : ¬ (6 : Int32) ≤ nI s := fun q => absurd (geL (k := 6) (by decide) (by omega) q) (by omega)
    have hSl : ∀ k, laK MI k 1 1 = nI S := fun k => by rw [laK_b _ (by decide) (by decide) (by decide)]; exact hSr
    by_cases hsS : s < S
    · obtain ⟨stp, hstp⟩ : ∃ stp : Nat → Kt → Kt, stp = stpK (MI 44) (MI 45) (arP MI) A s := ⟨_, rfl⟩
      obtain ⟨bd, hbd⟩ : ∃ bd : Nat → Kt → Kt, bd = fun c k => if clashV ((stp c k).2.2.2 (s + 1)).1 ((stp c k).2.2.2 (s + 1)).2 then stp c k else asK (MI 44) (MI 45) (arP MI) A S N d (s + 1) (stp c k) := ⟨_, rfl⟩
      have hfin : asK (MI 44) (MI 45) (arP MI) A S N (d + 1) s k = lpK bd N k := by rw [asK, if_pos hsS, hbd, hstp]
      rw [hfin] at hG
      have hs1 : nI s + 1 = nI (s + 1) := x_inc s
      have loop : ∀ c, c ≤ N → RW X G RX1 cX1_assign 5 (x_rm (5 + (d + 1)) 0 0) n SH (laK MI (lpK bd c k)) (laV ML (lpK bd c k)) MR 0 0 31 [(3, .int (nI c)), (0, .ref 60), (1, .int (nI s)), (2, .int (nI N))] [] := by
        refine bwd (fun c hc ih => ?_)
        obtain ⟨kc, hkc⟩ : ∃ kc, kc = lpK bd c k := ⟨_, rfl⟩
        have hnx : lpK bd (c + 1) k = bd c kc := by rw [hkc]; rfl
        rw [hnx] at ih
        have hbc : bd c kc = if clashV ((stp c kc).2.2.2 (s + 1)).1 ((stp c kc).2.2.2 (s + 1)).2 then stp c kc else asK (MI 44) (MI 45) (arP MI) A S N d (s + 1) (stp c kc) := by rw [hbd]
        have hst3 : (stp c kc) = ((up kc.1 s (nI c), kc.2.1, kc.2.2.1, up (up kc.2.2.2 (s + 1) (copyTo (kc.2.2.2 (s + 1)).1 (kc.2.2.2 s).1 5, copyTo (kc.2.2.2 (s + 1)).2 (kc.2.2.2 s).2 5)) (s + 1) (dmU (MI 44) (MI 45) (up kc.1 s (nI c)) (arP MI) (nI s) A ((up kc.2.2.2 (s + 1) (copyTo (kc.2.2.2 (s + 1)).1 (kc.2.2.2 s).1 5, copyTo (kc.2.2.2 (s + 1)).2 (kc.2.2.2 s).2 5)) (s + 1)))) : Kt) := by rw [hstp, stpK, up_up, up_eq]
        have hrec := ihd (s + 1) (by omega) (stp c kc)
        rw [← hs1] at hrec
        rw [← hkc]
        refine r_iload_n 0 rfl dX1_assign_31 ?_
        refine r_iload_n 3 rfl dX1_assign_32 ?_
        refine r_icmpge (tgt := 93) dX1_assign_33 (by decide) (fun zh33 => ?_) (fun zh33 => ?_)
        · obtain rfl : c = N := by have := geL (k := N) (by omega) (by omega) zh33; omega
          exact r_vret hG dX1_assign_93 (⟨rfl, by rw [hkc], by rw [hkc], rfl⟩)
        · have hlt : c < N := ltL (by omega) zh33
          refine r_aload_n 1 rfl dX1_assign_36 ?_
          refine r_getr dX1_assign_37 fl_X1_9 rfl (hM _ _ _ rfl) ?_
          refine r_iload_n 2 rfl dX1_assign_40 ?_
          refine r_iload_n 0 rfl dX1_assign_41 ?_
          refine r_iast dX1_assign_42 rfl (vp_in_nI (show s < 6 by omega) (by decide)) ?_
          rw [nI_clamp (by omega), laK_set]
          refine r_aload_n 1 rfl dX1_assign_43 ?_
          refine r_getr dX1_assign_44 fl_X1_17 rfl (hM _ _ _ rfl) ?_
          refine r_iload_n 2 rfl dX1_assign_47 ?_
          refine r_iconst (v := 1) rfl dX1_assign_48 ?_
          refine r_iadd dX1_assign_49 ?_
          refine r_aald dX1_assign_50 rfl (by decide) (by rw [hs1]; exact vp_in_nI (show s + 1 < 7 by omega) (by decide)) (by rw [hs1, nI_clamp (by omega)]; exact lvR hM (by omega)) ?_
          refine r_astore (ls2 := [(4, .ref (64 + 3 * (s + 1))), (3, .int (nI c)), (0, .ref 60), (1, .int (nI s)), (2, .int (nI N))]) dX1_assign_51 (by decide) rfl ?_
          refine r_aload 0 rfl dX1_assign_53 ?_
          refine r_aload_n 2 rfl dX1_assign_55 ?_
          refine r_getr dX1_assign_56 fl_X1_17 rfl (hM _ _ _ rfl) ?_
          refine r_iload_n 3 rfl dX1_assign_59 ?_
          refine r_aald dX1_assign_60 rfl (by decide) (vp_in_nI (show s < 7 by omega) (by decide)) (by rw [nI_clamp (by omega)]; exact lvR hM (by omega)) ?_
          refine r_Vn [.ref _] dX1_assign_61 lk_X1_57 mb_X3_takeFrom in_X3_takeFrom se_X3_takeFrom rfl (t_takeLv hM (by omega)) (De_lv hM (by omega)).1 rfl rfl (Nat.le_of_ble_eq_true rfl) (x_fitD (by omega) (by decide)) ?_
          refine r_aload_n 2 rfl dX1_assign_64 ?_
          refine r_aload 0 rfl dX1_assign_65 ?_
          refine r_iload_n 3 rfl dX1_assign_67 ?_
          refine r_Vn [.ref _, .int _] dX1_assign_68 lk_X1_61 mb_X1_demandUpTo in_X1_demandUpTo se_X1_demandUpTo rfl (t_demandLv hM hSt hA hAr (show s + 1 ≤ 6 by omega)) rfl rfl rfl (Nat.le_of_ble_eq_true rfl) (x_fitD (by omega) (by decide)) ?_
          refine r_mem (MI2 := laK MI (stp c kc)) (ML2 := laV ML (stp c kc)) (by rw [hst3]; rfl) (by rw [hst3]) rfl ?_
          refine r_aload 0 rfl dX1_assign_71 ?_
          refine r_Vf [] dX1_assign_73 lk_X1_65 mb_X3_clash in_X3_clash se_X3_clash rfl (t_clashLv hM (show s + 1 ≤ 6 by omega)) (De_lv hM (by omega)).1 rfl rfl (Nat.le_of_ble_eq_true rfl) (x_fitD (by omega) (by decide)) ?_
          refine r_ifne (tgt := 87) dX1_assign_76 (by decide) (fun zh76 => ?_) (fun zh76 => ?_)
          · refine r_iinc (v := (nI (c + 1))) (ls2 := [(3, .int (nI (c + 1))), (4, .ref (64 + 3 * (s + 1))), (0, .ref 60), (1, .int (nI s)), (2, .int (nI N))]) 1 dX1_assign_87 rfl (x_inc c) (by decide) rfl ?_
            refine r_goto (tgt := 31) dX1_assign_90 (by decide) ?_
            first
              | (rw [if_pos (show clashV ((stp c kc).2.2.2 (s + 1)).1 ((stp c kc).2.2.2 (s + 1)).2 = true by simpa using zh76)] at hbc
                 rw [hbc] at ih
                 exact r_sub [0, 2, 3, 4] rfl (ih hlt))
              | (rw [if_neg (show ¬ clashV ((stp c kc).2.2.2 (s + 1)).1 ((stp c kc).2.2.2 (s + 1)).2 = true by simpa using zh76)] at hbc
                 rw [hbc] at ih
                 exact r_sub [0, 2, 3, 4] rfl (ih hlt))
          · refine r_aload_n 2 rfl dX1_assign_79 ?_
            refine r_iload_n 3 rfl dX1_assign_80 ?_
            refine r_iconst (v := 1) rfl dX1_assign_81 ?_
            refine r_iadd dX1_assign_82 ?_
            refine r_iload_n 4 rfl dX1_assign_83 ?_
            refine r_Vn [.int _, .int _] dX1_assign_84 lk_X1_39 mb_X1_assign in_X1_assign se_X1_assign rfl (hrec) rfl rfl rfl (Nat.le_of_ble_eq_true rfl) (x_fitD (by omega) (by decide)) ?_
            refine r_iinc (v := (nI (c + 1))) (ls2 := [(3, .int (nI (c + 1))), (4, .ref (64 + 3 * (s + 1))), (0, .ref 60), (1, .int (nI s)), (2, .int (nI N))]) 1 dX1_assign_87 rfl (x_inc c) (by decide) rfl ?_
            refine r_goto (tgt := 31) dX1_assign_90 (by decide) ?_
            first
              | (rw [if_pos (show clashV ((stp c kc).2.2.2 (s + 1)).1 ((stp c kc).2.2.2 (s + 1)).2 = true by simpa using zh76)] at hbc
                 rw [hbc] at ih
                 exact r_sub [0, 2, 3, 4] rfl (ih hlt))
              | (rw [if_neg (show ¬ clashV ((stp c kc).2.2.2 (s + 1)).1 ((stp c kc).2.2.2 (s + 1)).2 = true by simpa using zh76)] at hbc
                 rw [hbc] at ih
                 exact r_sub [0, 2, 3, 4] rfl (ih hlt))
      refine r_iload_n 1 rfl dX1_assign_0 ?_
      refine r_iflt (tgt := 24) dX1_assign_1 (by decide) (fun zh1 => ?_) (fun zh1 => ?_)
      · exact absurd zh1 (hs0)
      refine r_iload_n 1 rfl dX1_assign_4 ?_
      refine r_bipush (v := 6) rfl dX1_assign_5 ?_
      refine r_icmpge (tgt := 24) dX1_assign_7 (by decide) (fun zh7 => ?_) (fun zh7 => ?_)
      · exact absurd zh7 (hs6)
      refine r_iload_n 1 rfl dX1_assign_10 ?_
      refine r_aload_n 0 rfl dX1_assign_11 ?_
      refine r_getr dX1_assign_12 fl_X1_24 rfl (hM _ _ _ rfl) ?_
      refine r_getr dX1_assign_15 fl_X1_43 rfl (hM _ _ _ rfl) ?_
      refine r_geti dX1_assign_18 fl_X1_49 rfl ?_
      refine r_icmplt (tgt := 29) dX1_assign_21 (by decide) (fun zh21 => ?_) (fun zh21 => ?_)
      rotate_left
      · exact absurd zh21 (fun q => q (by rw [hSl]; exact nI_lt hsS (by omega)))
      refine r_iconst (v := 0) rfl dX1_assign_29 ?_
      refine r_istore_n (ls2 := [(3, .int 0), (0, .ref 60), (1, .int (nI s)), (2, .int (nI N))]) dX1_assign_30 (by decide) rfl ?_
      exact loop 0 (by omega)
    · have hfin : asK (MI 44) (MI 45) (arP MI) A S N (d + 1) s k = kpK k := by rw [asK, if_neg hsS]
      rw [hfin] at hG
      refine r_iload_n 1 rfl dX1_assign_0 ?_
      refine r_iflt (tgt := 24) dX1_assign_1 (by decide) (fun zh1 => ?_) (fun zh1 => ?_)
      · exact absurd zh1 (hs0)
      refine r_iload_n 1 rfl dX1_assign_4 ?_
      refine r_bipush (v := 6) rfl dX1_assign_5 ?_
      refine r_icmpge (tgt := 24) dX1_assign_7 (by decide) (fun zh7 => ?_) (fun zh7 => ?_)
      · exact absurd zh7 (hs6)
      refine r_iload_n 1 rfl dX1_assign_10 ?_
      refine r_aload_n 0 rfl dX1_assign_11 ?_
      refine r_getr dX1_assign_12 fl_X1_24 rfl (hM _ _ _ rfl) ?_
      refine r_getr dX1_assign_15 fl_X1_43 rfl (hM _ _ _ rfl) ?_
      refine r_geti dX1_assign_18 fl_X1_49 rfl ?_
      refine r_icmplt (tgt := 29) dX1_assign_21 (by decide) (fun zh21 => ?_) (fun zh21 => ?_)
      · exact absurd zh21 (fun q => by rw [hSl] at q; exact absurd ((nI_ltI (a := s) (b := S) (by omega) (by omega)).mp q) hsS)
      refine r_aload_n 0 rfl dX1_assign_24 ?_
      refine r_Vn [] dX1_assign_25 lk_X1_54 mb_X1_keep in_X1_keep se_X1_keep rfl (c_X1_keep hM) rfl rfl rfl (Nat.le_of_ble_eq_true rfl) (x_fitD (by omega) (by decide)) ?_
      exact r_vret hG dX1_assign_28 (⟨rfl, rfl, rfl, rfl⟩)
def lvC (ML : Nat → Nat → Int64) : Nat → Dp := fun i => (ML (65 + 3 * i), ML (66 + 3 * i))
theorem laK_id {MI : Nat → Nat → Int32} (lv : Nat → Dp) (x : Int32) : laK MI (MI 61, x, MI 63, lv) = u2 MI 60 4 x := by
  funext b j
  simp only [laK, sr, u2]
  grind
theorem laV_id {ML : Nat → Nat → Int64} (C F : Nat → Int32) (x : Int32) : laV ML (C, x, F, lvC ML) = ML := by
  funext b j
  unfold laV lvC
  split
  · rename_i h
    show ML (65 + 3 * ((b - 65) / 3)) j = _
    rw [show 65 + 3 * ((b - 65) / 3) = b by omega]
  · split
    · rename_i h
      show ML (66 + 3 * ((b - 66) / 3)) j = _
      rw [show 66 + 3 * ((b - 66) / 3) = b by omega]
    · rfl
def srK (MI : Nat → Nat → Int32) (ML : Nat → Nat → Int64) (A S N : Nat) : Kt := asK (MI 44) (MI 45) (arP MI) A S N 6 0 (MI 61, 0, MI 63, up (lvC ML) 0 (zDp (ML 65, ML 66)))
set_option maxRecDepth 100000 in
theorem c_X1_search (hM : x_Lay MR) (hSt : x_St X) {A S N : Nat} (hA : A ≤ 8) (hAr : MI 1 6 = nI A) (hS : S ≤ 6) (hSr : MI 1 1 = nI S) (hN : N ≤ 4) : Cf X yX1_search cX1_search 2 none 12 [.ref 60, .int (nI N)] n SH MI ML MR none (if MI 60 5 = nI N then MI else u2 (laK MI (srK MI ML A S N)) 60 5 (nI N)) (if MI 60 5 = nI N then ML else laV ML (srK MI ML A S N)) MR := by
  refine Ct_of (by decide) (Nat.le_of_ble_eq_true rfl) (fun G hG => ?_)
  have h0 := c_X1_assign (X := X) (n := n) (MI := MI) (ML := ML) (MR := MR) hM hSt hA hAr hS hSr hN 6 0 rfl (MI 61, 0, MI 63, up (lvC ML) 0 (zDp (ML 65, ML 66)))
  have eL : sr (sr ML 65 (zeroTo (ML 65) 5)) 66 (zeroTo (ML 66) 5) = laV ML (MI 61, 0, MI 63, up (lvC ML) 0 (zDp (ML 65, ML 66))) := by
    have h := laV_set (ML := ML) (MI 61, 0, MI 63, lvC ML) (i := 0) (by omega) (zDp (ML 65, ML 66))
    rw [laV_id] at h
    exact h
  refine r_aload_n 0 rfl dX1_search_0 ?_
  refine r_geti dX1_search_1 fl_X1_29 rfl ?_
  refine r_iload_n 1 rfl dX1_search_4 ?_
  refine r_icmpne (tgt := 9) dX1_search_5 (by decide) (fun zh5 => ?_) (fun zh5 => ?_)
  · rw [if_neg zh5, if_neg zh5] at hG
    refine r_aload_n 0 rfl dX1_search_9 ?_
    refine r_iconst (v := 0) rfl dX1_search_10 ?_
    refine r_puti dX1_search_11 fl_X1_33 rfl rfl rfl ?_
    refine r_aload_n 0 rfl dX1_search_14 ?_
    refine r_getr dX1_search_15 fl_X1_17 rfl (hM _ _ _ rfl) ?_
    refine r_iconst (v := 0) rfl dX1_search_18 ?_
    refine r_aald dX1_search_19 rfl (by decide) (vp_in_nI (show 0 < 7 by decide) (by decide)) (hM _ _ _ rfl) ?_
    refine r_Vn [] dX1_search_20 lk_X1_36 mb_X3_clear in_X3_clear se_X3_clear rfl (c_X3_clear (De_lv hM (i := 0) (by omega))) rfl rfl rfl (Nat.le_of_ble_eq_true rfl) (rfl) ?_
    refine r_mem (laK_id (up (lvC ML) 0 (zDp (ML 65, ML 66))) 0).symm eL rfl ?_
    refine r_aload_n 0 rfl dX1_search_23 ?_
    refine r_iconst (v := 0) rfl dX1_search_24 ?_
    refine r_iload_n 1 rfl dX1_search_25 ?_
    refine r_Vn [.int _, .int _] dX1_search_26 lk_X1_39 mb_X1_assign in_X1_assign se_X1_assign rfl (h0) rfl rfl rfl (Nat.le_of_ble_eq_true rfl) (rfl) ?_
    refine r_aload_n 0 rfl dX1_search_29 ?_
    refine r_iload_n 1 rfl dX1_search_30 ?_
    refine r_puti dX1_search_31 fl_X1_29 rfl rfl rfl ?_
    exact r_vret hG dX1_search_34 (⟨rfl, rfl, rfl, rfl⟩)
  · exact r_vret hG dX1_search_8 (⟨rfl, by rw [if_pos zh5], by rw [if_pos zh5], rfl⟩)
end coder

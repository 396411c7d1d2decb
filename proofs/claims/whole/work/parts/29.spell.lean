/-! Sheet: write, spellCube, spell -/
def sgM (MI : Nat → Nat → Int32) (a : Nat) (r : Nat → Int32) (L : List Int32) (c : Nat) : Nat → Nat → Int32 := u2 (u2 (sr MI (a + 6) (layL r L)) a 18 (nI L.length)) a 16 (nI c)
theorem sgM_s {MI : Nat → Nat → Int32} {a c : Nat} {r : Nat → Int32} {L : List Int32} : sgM MI a r L c a 18 = nI L.length := by
  unfold sgM
  rw [u2_ne _ _ (by omega), u2_eq]
theorem sgM_l {MI : Nat → Nat → Int32} {a c : Nat} {r : Nat → Int32} {L : List Int32} : sgM MI a r L c a 16 = nI c := u2_eq _ _ _ _
theorem sgM_f {MI : Nat → Nat → Int32} {a c j : Nat} {r : Nat → Int32} {L : List Int32} (h1 : j ≠ 16) (h2 : j ≠ 18) : sgM MI a r L c a j = MI a j := by
  unfold sgM
  rw [u2_ne _ _ (by omega), u2_ne _ _ (by omega), sr_ne _ _ (by omega)]
theorem sgM_b {MI : Nat → Nat → Int32} {a b c : Nat} {r : Nat → Int32} {L : List Int32} (h1 : b ≠ a) (h2 : b ≠ a + 6) : sgM MI a r L c b = MI b := by
  unfold sgM
  rw [u2_row _ _ h1, u2_row _ _ h1, sr_ne _ _ h2]
def digV (x : Int32) (k : Nat) : Int32 := divN x (5 - k) - divN x (5 - k) / 3 * 3
def spL (x : Int32) (s : List Int32 × Nat) : Nat → List Int32 × Nat
  | 0 => s
  | k + 1 => if digV x k = 2 then spL x s k else if digV x k = 0 then ((spL x s k).1 ++ [x_sb 7 k] ++ [39], (spL x s k).2 + 1) else ((spL x s k).1 ++ [x_sb 7 k], (spL x s k).2 + 1)
theorem spL_len (x : Int32) (s : List Int32 × Nat) : ∀ k, s.2 ≤ (spL x s k).2 ∧ (spL x s k).2 ≤ s.2 + k ∧ (spL x s k).1.length ≤ s.1.length + 2 * ((spL x s k).2 - s.2)
  | 0 => ⟨Nat.le_refl _, Nat.le_refl _, by simp [spL]⟩
  | k + 1 => by
    obtain ⟨h1, h2, h3⟩ := spL_len x s k
    rw [spL]
    split
    · exact ⟨h1, by omega, h3⟩
    · split
      · refine ⟨?_, ?_, ?_⟩ <;> simp <;> omega
      · refine ⟨?_, ?_, ?_⟩ <;> simp <;> omega
/-- one CUBE spelt: the signs so far, the literals so far -/
def spQ (x : Int32) (s : List Int32 × Nat) : List Int32 × Nat := if (spL x s 6).2 = s.2 then ((spL x s 6).1 ++ [49], (spL x s 6).2) else spL x s 6
theorem spQ_len (x : Int32) (s : List Int32 × Nat) : (spQ x s).1.length ≤ s.1.length + 12 ∧ (spQ x s).2 ≤ s.2 + 6 := by
  obtain ⟨h1, h2, h3⟩ := spL_len x s 6
  unfold spQ
  split
  · rename_i e
    refine ⟨?_, h2⟩
    rw [List.length_append]
    simp
    omega
  · exact ⟨by omega, h2⟩
def spA (c : Nat → Int32) : Nat → List Int32 × Nat
  | 0 => ([], 0)
  | k + 1 => spQ (c k) (if k = 0 then spA c k else ((spA c k).1 ++ [43], (spA c k).2))
theorem spA_len (c : Nat → Int32) : ∀ k, (spA c k).1.length + 1 ≤ 13 * k + (if k = 0 then 1 else 0) ∧ (spA c k).2 ≤ 6 * k
  | 0 => ⟨by simp [spA], by simp [spA]⟩
  | k + 1 => by
    obtain ⟨h1, h2⟩ := spA_len c k
    have h3 := spQ_len (c k) (if k = 0 then spA c k else ((spA c k).1 ++ [43], (spA c k).2))
    rw [spA]
    by_cases e : k = 0
    · subst e
      simp only [if_true] at h1 h3 ⊢
      have e0 : (spA c 0).1.length = 0 := rfl
      have e1 : (spA c 0).2 = 0 := rfl
      refine ⟨?_, ?_⟩
      · rw [if_neg (by omega)]; omega
      · omega
    · rw [if_neg e] at h1 h3 ⊢
      simp only [List.length_append, List.length_cons, List.length_nil] at h3
      refine ⟨?_, ?_⟩
      · rw [if_neg (by omega)]; omega
      · omega
/-- the FORMULA of K chosen CUBES -/
def fmL (c : Nat → Int32) (K : Nat) : List Int32 := if K = 0 then [48] else (spA c K).1
section spell
variable {X : xG} {n : Nat} {MI : Nat → Nat → Int32} {ML : Nat → Nat → Int64} {MR : Nat → Nat → Option Nat} {a : Nat}
theorem t_write (hA : x_Sh MR a) {r : Nat → Int32} {L : List Int32} {c : Nat} {x : Int32} (hL : L.length < 64) : Cf X yX7_write cX7_write 2 none 2 [.ref a, .int x] n SH (sgM MI a r L c) ML MR none (sgM MI a r (L ++ [x]) c) ML MR := by
  obtain ⟨s0, m1, m2, m3, m5, m7, m8, m10, m12, m17, s1, s2, s3, s4, s5, s6, hal⟩ := hA
  have hput : u2 (placeM (sgM MI a r L c) (a + 6) 64 (nI L.length) x) a 18 (placeM (sgM MI a r L c) (a + 6) 64 (nI L.length) x a 18 + 1) = sgM MI a r (L ++ [x]) c := by
    unfold placeM
    rw [if_pos (inR_t.mp (inR_nI hL (by decide))), nI_clamp (by omega), u2_row _ _ (show a ≠ a + 6 by omega), sgM_s, nI_1]
    unfold sgM
    rw [← layL_app, List.length_append]
    funext b j
    simp only [u2, sr, up, List.length_cons, List.length_nil]
    grind
  refine Ct_of (by decide) (Nat.le_of_ble_eq_true rfl) (fun G hG => ?_)
  refine r_aload_n 0 rfl dX7_write_0 ?_
  refine r_getr dX7_write_1 fl_X7_30 s0 m17 ?_
  refine r_aload_n 0 rfl dX7_write_4 ?_
  refine r_geti dX7_write_5 fl_X7_190 s0 ?_
  refine r_iload_n 1 rfl dX7_write_8 ?_
  refine r_Sn [.ref _, .int _, .int _] dX7_write_9 lk_X7_155 mb_X10_place sc_X10_place rfl (c_X10_place (N := 64) s6 (by decide)) rfl (Nat.le_of_ble_eq_true rfl) (rfl) ?_
  refine r_aload_n 0 rfl dX7_write_12 ?_
  refine r_dup rfl dX7_write_13 ?_
  refine r_geti dX7_write_14 fl_X7_190 s0 ?_
  refine r_iconst (v := 1) rfl dX7_write_17 ?_
  refine r_iadd dX7_write_18 ?_
  refine r_puti dX7_write_19 fl_X7_190 s0 rfl rfl ?_
  exact r_vret hG dX7_write_22 (⟨rfl, by rw [sgM_s]; exact hput, rfl, rfl⟩)
theorem t_spellCube (hS2 : x_S2 X) (hA0 : x_Sh MR a) {r : Nat → Int32} {s : List Int32 × Nat} {x : Int32} (hL : s.1.length ≤ 52) (hc : s.2 ≤ 100) : Cf X yX7_spellCube cX7_spellCube 5 none 5 [.ref a, .int x] n SH (sgM MI a r s.1 s.2) ML MR none (sgM MI a r (spQ x s).1 (spQ x s).2) ML MR := by
  have hA := hA0
  obtain ⟨s0, m1, m2, m3, m5, m7, m8, m10, m12, m17, s1, s2, s3, s4, s5, s6, hal⟩ := hA
  refine Ct_of (by decide) (Nat.le_of_ble_eq_true rfl) (fun G hG => ?_)
  have hinc : ∀ L c, u2 (sgM MI a r L c) a 16 (nI (c + 1)) = sgM MI a r L (c + 1) := fun L c => by
    funext b j
    simp only [u2, sgM]
    grind
  have loop : ∀ i, i ≤ 6 → RW X G RX7 cX7_spellCube 5 (x_rm 5 0 0) n SH (sgM MI a r (spL x s i).1 (spL x s i).2) ML MR 0 0 7 [(3, .int (nI i)), (2, .int (nI s.2)), (0, .ref a), (1, .int x)] [] := by
    refine bwd (fun i hi ih => ?_)
    obtain ⟨g1, g2, g3⟩ := spL_len x s i
    have hsl : spL x s (i + 1) = if digV x i = 2 then spL x s i else if digV x i = 0 then ((spL x s i).1 ++ [x_sb 7 i] ++ [39], (spL x s i).2 + 1) else ((spL x s i).1 ++ [x_sb 7 i], (spL x s i).2 + 1) := rfl
    have hq49 : ¬ (spL x s i).2 = s.2 → i = 6 → spQ x s = spL x s i := fun h e => by subst e; exact if_neg h
    have hq1 : (spL x s i).2 = s.2 → i = 6 → spQ x s = ((spL x s i).1 ++ [49], (spL x s i).2) := fun h e => by subst e; exact if_pos h
    have heq := nI_eq (a := (spL x s i).2) (b := s.2) (by omega) (by omega)
    refine r_iload_n 0 rfl dX7_spellCube_7 ?_
    refine r_bipush (v := 6) rfl dX7_spellCube_8 ?_
    refine r_icmpge (tgt := 63) dX7_spellCube_10 (by decide) (fun zh10 => ?_) (fun zh10 => ?_)
    · have hi6 : i = 6 := by have := geL (k := 6) (by decide) (by omega) zh10; omega
      refine r_aload_n 2 rfl dX7_spellCube_63 ?_
      refine r_geti dX7_spellCube_64 fl_X7_193 s0 ?_
      refine r_iload_n 1 rfl dX7_spellCube_67 ?_
      refine r_icmpne (tgt := 77) dX7_spellCube_68 (by decide) (fun zh68 => ?_) (fun zh68 => ?_)
      · exact r_vret hG dX7_spellCube_77 (⟨rfl, by (try rw [sgM_l] at zh68); first | (rw [hq1 (heq.mp zh68) hi6]) | (rw [hq49 (fun z => zh68 (heq.mpr z)) hi6]), rfl, rfl⟩)
      · rw [sgM_l] at zh68
        have he := heq.mp zh68
        refine r_aload_n 2 rfl dX7_spellCube_71 ?_
        refine r_bipush (v := 49) rfl dX7_spellCube_72 ?_
        refine r_Vn [.int _] dX7_spellCube_74 lk_X7_200 mb_X7_write in_X7_write se_X7_write rfl (t_write hA0 (by omega)) s0 rfl rfl (Nat.le_of_ble_eq_true rfl) (rfl) ?_
        exact r_vret hG dX7_spellCube_77 (⟨rfl, by (try rw [sgM_l] at zh68); first | (rw [hq1 (heq.mp zh68) hi6]) | (rw [hq49 (fun z => zh68 (heq.mpr z)) hi6]), rfl, rfl⟩)
    · have hlt : i < 6 := ltL (by omega) zh10
      refine r_iload_n 3 rfl dX7_spellCube_13 ?_
      refine r_iload_n 0 rfl dX7_spellCube_14 ?_
      refine r_Sf [.int _, .int _] dX7_spellCube_15 lk_X7_207 mb_X2_digitOf sc_X2_digitOf rfl (c_X2_digitOf hlt) rfl (Nat.le_of_ble_eq_true rfl) (rfl) ?_
      refine r_istore (ls2 := [(4, .int (digV x i)), (3, .int (nI i)), (2, .int (nI s.2)), (0, .ref a), (1, .int x)]) dX7_spellCube_18 (by decide) rfl ?_
      refine r_iload 0 rfl dX7_spellCube_20 ?_
      refine r_iconst (v := 2) rfl dX7_spellCube_22 ?_
      refine r_icmpeq (tgt := 46) dX7_spellCube_23 (by decide) (fun zh23 => ?_) (fun zh23 => ?_)
      · refine r_iload 0 rfl dX7_spellCube_46 ?_
        refine r_ifne (tgt := 57) dX7_spellCube_48 (by decide) (fun zh48 => ?_) (fun zh48 => ?_)
        · refine r_iinc (v := (nI (i + 1))) (ls2 := [(3, .int (nI (i + 1))), (4, .int (digV x i)), (2, .int (nI s.2)), (0, .ref a), (1, .int x)]) 1 dX7_spellCube_57 rfl (x_inc i) (by decide) rfl ?_
          refine r_goto (tgt := 7) dX7_spellCube_60 (by decide) ?_
          have q := ih hlt
          rw [hsl] at q
          first
            | (exfalso; rw [zh23] at zh48; exact absurd zh48 (by decide))
            | (rw [if_pos zh23] at q; exact r_sub [0, 2, 3, 4] rfl q)
            | (rw [if_neg zh23, if_pos zh48] at q; exact r_sub [0, 2, 3, 4] rfl q)
            | (rw [if_neg zh23, if_neg zh48] at q; exact r_sub [0, 2, 3, 4] rfl q)
        · refine r_aload_n 3 rfl dX7_spellCube_51 ?_
          refine r_bipush (v := 39) rfl dX7_spellCube_52 ?_
          refine r_Vn [.int _] dX7_spellCube_54 lk_X7_200 mb_X7_write in_X7_write se_X7_write rfl (t_write hA0 (by first | (simp; omega) | omega)) s0 rfl rfl (Nat.le_of_ble_eq_true rfl) (rfl) ?_
          refine r_iinc (v := (nI (i + 1))) (ls2 := [(3, .int (nI (i + 1))), (4, .int (digV x i)), (2, .int (nI s.2)), (0, .ref a), (1, .int x)]) 1 dX7_spellCube_57 rfl (x_inc i) (by decide) rfl ?_
          refine r_goto (tgt := 7) dX7_spellCube_60 (by decide) ?_
          have q := ih hlt
          rw [hsl] at q
          first
            | (exfalso; rw [zh23] at zh48; exact absurd zh48 (by decide))
            | (rw [if_pos zh23] at q; exact r_sub [0, 2, 3, 4] rfl q)
            | (rw [if_neg zh23, if_pos zh48] at q; exact r_sub [0, 2, 3, 4] rfl q)
            | (rw [if_neg zh23, if_neg zh48] at q; exact r_sub [0, 2, 3, 4] rfl q)
      · refine r_aload_n 3 rfl dX7_spellCube_26 ?_
        refine r_dup rfl dX7_spellCube_27 ?_
        refine r_geti dX7_spellCube_28 fl_X7_193 s0 ?_
        refine r_iconst (v := 1) rfl dX7_spellCube_31 ?_
        refine r_iadd dX7_spellCube_32 ?_
        refine r_puti dX7_spellCube_33 fl_X7_193 s0 rfl rfl ?_
        rw [sgM_l, nI_1, hinc]
        refine r_aload_n 3 rfl dX7_spellCube_36 ?_
        refine r_ldcS (k0 := 1008) sr_X7_210 (by decide) dX7_spellCube_37 ?_
        refine r_iload_n 1 rfl dX7_spellCube_39 ?_
        refine r_VRf [.int _] dX7_spellCube_40 lk_X7_212 mb_J0_charAt_5068e in_J0_charAt_5068e se_J0_charAt_5068e rfl (c_J0_charAt_5068e hS2 (i := 7) (by decide) (show i < x_sl' 7 from hlt)) hS2 (by decide) rfl rfl (Nat.le_of_ble_eq_true rfl) (rfl) ?_
        refine r_Vn [.int _] dX7_spellCube_43 lk_X7_200 mb_X7_write in_X7_write se_X7_write rfl (t_write hA0 (by omega)) s0 rfl rfl (Nat.le_of_ble_eq_true rfl) (rfl) ?_
        refine r_iload 0 rfl dX7_spellCube_46 ?_
        refine r_ifne (tgt := 57) dX7_spellCube_48 (by decide) (fun zh48 => ?_) (fun zh48 => ?_)
        · refine r_iinc (v := (nI (i + 1))) (ls2 := [(3, .int (nI (i + 1))), (4, .int (digV x i)), (2, .int (nI s.2)), (0, .ref a), (1, .int x)]) 1 dX7_spellCube_57 rfl (x_inc i) (by decide) rfl ?_
          refine r_goto (tgt := 7) dX7_spellCube_60 (by decide) ?_
          have q := ih hlt
          rw [hsl] at q
          first
            | (exfalso; rw [zh23] at zh48; exact absurd zh48 (by decide))
            | (rw [if_pos zh23] at q; exact r_sub [0, 2, 3, 4] rfl q)
            | (rw [if_neg zh23, if_pos zh48] at q; exact r_sub [0, 2, 3, 4] rfl q)
            | (rw [if_neg zh23, if_neg zh48] at q; exact r_sub [0, 2, 3, 4] rfl q)
        · refine r_aload_n 3 rfl dX7_spellCube_51 ?_
          refine r_bipush (v := 39) rfl dX7_spellCube_52 ?_
          refine r_Vn [.int _] dX7_spellCube_54 lk_X7_200 mb_X7_write in_X7_write se_X7_write rfl (t_write hA0 (by first | (simp; omega) | omega)) s0 rfl rfl (Nat.le_of_ble_eq_true rfl) (rfl) ?_
          refine r_iinc (v := (nI (i + 1))) (ls2 := [(3, .int (nI (i + 1))), (4, .int (digV x i)), (2, .int (nI s.2)), (0, .ref a), (1, .int x)]) 1 dX7_spellCube_57 rfl (x_inc i) (by decide) rfl ?_
          refine r_goto (tgt := 7) dX7_spellCube_60 (by decide) ?_
          have q := ih hlt
          rw [hsl] at q
          first
            | (exfalso; rw [zh23] at zh48; exact absurd zh48 (by decide))
            | (rw [if_pos zh23] at q; exact r_sub [0, 2, 3, 4] rfl q)
            | (rw [if_neg zh23, if_pos zh48] at q; exact r_sub [0, 2, 3, 4] rfl q)
            | (rw [if_neg zh23, if_neg zh48] at q; exact r_sub [0, 2, 3, 4] rfl q)
  refine r_aload_n 0 rfl dX7_spellCube_0 ?_
  refine r_geti dX7_spellCube_1 fl_X7_193 s0 ?_
  refine r_nmi (fun zv4 ze4 => ?_)
  refine r_istore_n (ls2 := [(2, .int zv4), (0, .ref a), (1, .int x)]) dX7_spellCube_4 (by decide) rfl ?_
  refine r_iconst (v := 0) rfl dX7_spellCube_5 ?_
  refine r_istore_n (ls2 := [(3, .int 0), (2, .int zv4), (0, .ref a), (1, .int x)]) dX7_spellCube_6 (by decide) rfl ?_
  obtain rfl : zv4 = nI s.2 := by rw [ze4, sgM_l]
  exact r_sub [0, 1, 2, 3] rfl (loop 0 (by omega))
set_option maxRecDepth 100000 in
theorem c_X7_spell (hS2 : x_S2 X) (hA0 : x_Sh MR a) {K : Nat} (hf : hasF (MI a 13) = true → K ≤ 5 ∧ MI a 13 = nI K) {L : List Int32} {lc : Nat} (hL : L = if hasF (MI a 13) = true then fmL (fun i => pickV (MI (a + 4)) 240 (MI (a + 5) i)) K else []) (hlc : lc = if hasF (MI a 13) = true then (spA (fun i => pickV (MI (a + 4)) 240 (MI (a + 5) i)) K).2 else 0) : Cf X yX7_spell cX7_spell 2 none 6 [.ref a] n SH MI ML MR none (sgM MI a (MI (a + 6)) L lc) ML MR := by
  have hA := hA0
  obtain ⟨s0, m1, m2, m3, m5, m7, m8, m10, m12, m17, s1, s2, s3, s4, s5, s6, hal⟩ := hA
  refine Ct_of (by decide) (Nat.le_of_ble_eq_true rfl) (fun G hG => ?_)
  have hst : u2 (u2 MI a 18 0) a 16 0 = sgM MI a (MI (a + 6)) [] 0 := by
    unfold sgM
    rw [layL_nil, sr_id]
    rfl
  obtain ⟨cb, hcb⟩ : ∃ cb : Nat → Int32, cb = fun i => pickV (MI (a + 4)) 240 (MI (a + 5) i) := ⟨_, rfl⟩
  rw [← hcb] at hL hlc
  have loop : hasF (MI a 13) = true → ∀ i, i ≤ K → RW X G RX7 cX7_spell 2 (x_rm 6 0 0) n SH (sgM MI a (MI (a + 6)) (spA cb i).1 (spA cb i).2) ML MR 0 0 20 [(1, .int (nI i)), (0, .ref a)] [] := by
    intro hh
    obtain ⟨hK, hKe⟩ := hf hh
    rw [if_pos hh] at hL hlc
    refine bwd (fun i hi ih => ?_)
    obtain ⟨g1, g2⟩ := spA_len cb i
    have hcc : ∀ L c, i < K → pickV (sgM MI a (MI (a + 6)) L c (a + 4)) 240 (pickV (sgM MI a (MI (a + 6)) L c (a + 5)) 5 (nI i)) = cb i := fun L c h => by rw [sgM_b (by omega) (by omega), sgM_b (by omega) (by omega), pickV_nI _ (show i < 5 by omega) (by decide), hcb]
    have hcon : ∀ L c, i < K → Cf X yX7_chosenCube cX7_chosenCube 2 (some .int) 2 [.ref a, .int (nI i)] n SH (sgM MI a (MI (a + 6)) L c) ML MR (some (.int (cb i))) (sgM MI a (MI (a + 6)) L c) ML MR := fun L c h => by
      have q := c_X7_chosenCube (X := X) (n := n) (MI := sgM MI a (MI (a + 6)) L c) (ML := ML) (MR := MR) (a := a) (x := nI i) hA0
      rw [hcc L c h] at q
      exact q
    have hsx : ∀ M, M = sgM MI a (MI (a + 6)) (if i = 0 then spA cb i else ((spA cb i).1 ++ [43], (spA cb i).2)).1 (if i = 0 then spA cb i else ((spA cb i).1 ++ [43], (spA cb i).2)).2 → i < K → Cf X yX7_spellCube cX7_spellCube 5 none 5 [.ref a, .int (cb i)] n SH M ML MR none (sgM MI a (MI (a + 6)) (spA cb (i + 1)).1 (spA cb (i + 1)).2) ML MR := fun M hM2 hlt => by
      rw [hM2]
      refine t_spellCube (s := if i = 0 then spA cb i else ((spA cb i).1 ++ [43], (spA cb i).2)) hS2 hA0 ?_ ?_
      · by_cases z : i = 0
        · subst z; rw [if_pos rfl]; show (0 : Nat) ≤ 52; decide
        · rw [if_neg z] at g1 ⊢; simp; omega
      · by_cases z : i = 0
        · rw [if_pos z]; omega
        · rw [if_neg z]; show (spA cb i).2 ≤ 100; omega
    have hz13 : ∀ L c, sgM MI a (MI (a + 6)) L c a 13 = MI a 13 := fun L c => sgM_f (by decide) (by decide)
    have hK0 := nI_eq (a := K) (b := 0) (by omega) (by decide)
    refine r_iload_n 0 rfl dX7_spell_20 ?_
    refine r_aload_n 1 rfl dX7_spell_21 ?_
    refine r_geti dX7_spell_22 fl_X7_102 s0 ?_
    refine r_icmpge (tgt := 53) dX7_spell_25 (by decide) (fun zh25 => ?_) (fun zh25 => ?_)
    · rw [hz13, hKe] at zh25
      have hiK : i = K := by have := geL (k := K) (by omega) (by omega) zh25; omega
      refine r_aload_n 1 rfl dX7_spell_53 ?_
      refine r_geti dX7_spell_54 fl_X7_102 s0 ?_
      refine r_ifne (tgt := 66) dX7_spell_57 (by decide) (fun zh57 => ?_) (fun zh57 => ?_)
      · exact r_vret hG dX7_spell_66 (⟨rfl, by first | (rw [hL, hlc, ← hiK]; unfold fmL; rw [if_pos (show i = 0 by omega), show spA cb i = ([], 0) from by rw [show i = 0 by omega]; rfl]; rfl) | (rw [hL, hlc, ← hiK]; unfold fmL; rw [if_neg (fun z => zh57 (by rw [hz13, hKe]; exact hK0.mpr (by omega)))]), rfl, rfl⟩)
      · rw [hz13, hKe] at zh57
        have hKz := hK0.mp zh57
        refine r_aload_n 1 rfl dX7_spell_60 ?_
        refine r_bipush (v := 48) rfl dX7_spell_61 ?_
        refine r_Vn [.int _] dX7_spell_63 lk_X7_200 mb_X7_write in_X7_write se_X7_write rfl (t_write hA0 (by rw [if_pos (show i = 0 by omega)] at g1; omega)) s0 rfl rfl (Nat.le_of_ble_eq_true rfl) (rfl) ?_
        exact r_vret hG dX7_spell_66 (⟨rfl, by first | (rw [hL, hlc, ← hiK]; unfold fmL; rw [if_pos (show i = 0 by omega), show spA cb i = ([], 0) from by rw [show i = 0 by omega]; rfl]; rfl) | (rw [hL, hlc, ← hiK]; unfold fmL; rw [if_neg (fun z => zh57 (by rw [hz13, hKe]; exact hK0.mpr (by omega)))]), rfl, rfl⟩)
    · rw [hz13, hKe] at zh25
      have hlt : i < K := ltL (by omega) zh25
      refine r_iload_n 0 rfl dX7_spell_28 ?_
      refine r_ifle (tgt := 38) dX7_spell_29 (by decide) (fun zh29 => ?_) (fun zh29 => ?_)
      · refine r_aload_n 1 rfl dX7_spell_38 ?_
        refine r_aload_n 1 rfl dX7_spell_39 ?_
        refine r_iload_n 0 rfl dX7_spell_40 ?_
        refine r_Vf [.int _] dX7_spell_41 lk_X7_116 mb_X7_chosenCube in_X7_chosenCube se_X7_chosenCube rfl (hcon _ _ hlt) s0 rfl rfl (Nat.le_of_ble_eq_true rfl) (rfl) ?_
        refine r_Vn [.int _] dX7_spell_44 lk_X7_204 mb_X7_spellCube in_X7_spellCube se_X7_spellCube rfl (hsx _ (by first | rw [if_pos (show i = 0 from Nat.le_zero.mp (geL (k := i) (i := 0) (by omega) (by decide) zh29))] | rw [if_neg hi0]) hlt) s0 rfl rfl (Nat.le_of_ble_eq_true rfl) (rfl) ?_
        refine r_iinc (v := (nI (i + 1))) (ls2 := [(1, .int (nI (i + 1))), (0, .ref a)]) 0 dX7_spell_47 rfl (x_inc i) (by decide) rfl ?_
        refine r_goto (tgt := 20) dX7_spell_50 (by decide) ?_
        exact ih hlt
      · have hi0 : ¬ i = 0 := fun z => zh29 (by rw [z]; decide)
        refine r_aload_n 1 rfl dX7_spell_32 ?_
        refine r_bipush (v := 43) rfl dX7_spell_33 ?_
        refine r_Vn [.int _] dX7_spell_35 lk_X7_200 mb_X7_write in_X7_write se_X7_write rfl (t_write hA0 (by rw [if_neg hi0] at g1; omega)) s0 rfl rfl (Nat.le_of_ble_eq_true rfl) (rfl) ?_
        refine r_aload_n 1 rfl dX7_spell_38 ?_
        refine r_aload_n 1 rfl dX7_spell_39 ?_
        refine r_iload_n 0 rfl dX7_spell_40 ?_
        refine r_Vf [.int _] dX7_spell_41 lk_X7_116 mb_X7_chosenCube in_X7_chosenCube se_X7_chosenCube rfl (hcon _ _ hlt) s0 rfl rfl (Nat.le_of_ble_eq_true rfl) (rfl) ?_
        refine r_Vn [.int _] dX7_spell_44 lk_X7_204 mb_X7_spellCube in_X7_spellCube se_X7_spellCube rfl (hsx _ (by first | rw [if_pos (show i = 0 from Nat.le_zero.mp (geL (k := i) (i := 0) (by omega) (by decide) zh29))] | rw [if_neg hi0]) hlt) s0 rfl rfl (Nat.le_of_ble_eq_true rfl) (rfl) ?_
        refine r_iinc (v := (nI (i + 1))) (ls2 := [(1, .int (nI (i + 1))), (0, .ref a)]) 0 dX7_spell_47 rfl (x_inc i) (by decide) rfl ?_
        refine r_goto (tgt := 20) dX7_spell_50 (by decide) ?_
        exact ih hlt
  refine r_aload_n 0 rfl dX7_spell_0 ?_
  refine r_iconst (v := 0) rfl dX7_spell_1 ?_
  refine r_puti dX7_spell_2 fl_X7_190 s0 rfl rfl ?_
  refine r_aload_n 0 rfl dX7_spell_5 ?_
  refine r_iconst (v := 0) rfl dX7_spell_6 ?_
  refine r_puti dX7_spell_7 fl_X7_193 s0 rfl rfl ?_
  refine r_mem hst rfl rfl ?_
  refine r_aload_n 0 rfl dX7_spell_10 ?_
  refine r_Vf [] dX7_spell_11 lk_X7_196 mb_X7_hasFewest in_X7_hasFewest se_X7_hasFewest rfl (c_X7_hasFewest hA0) s0 rfl rfl (Nat.le_of_ble_eq_true rfl) (rfl) ?_
  refine r_ifne (tgt := 18) dX7_spell_14 (by decide) (fun zh14 => ?_) (fun zh14 => ?_)
  · rw [sgM_f (by decide) (by decide)] at zh14
    refine r_iconst (v := 0) rfl dX7_spell_18 ?_
    refine r_istore_n (ls2 := [(1, .int 0), (0, .ref a)]) dX7_spell_19 (by decide) rfl ?_
    exact loop (by cases z : hasF (MI a 13) with | true => rfl | false => exact absurd (b2z.mpr z) zh14) 0 (by omega)
  · rw [sgM_f (by decide) (by decide)] at zh14
    exact r_vret hG dX7_spell_17 (⟨rfl, by rw [hL, hlc, if_neg (by rw [b2z.mp zh14]; decide), if_neg (by rw [b2z.mp zh14]; decide)], rfl, rfl⟩)
end spell

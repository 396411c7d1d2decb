/-! the reference: formulas as text -/
def dgt (c k : Nat) : Nat := c / 3 ^ (5 - k) % 3
theorem dgt_lt (c k : Nat) : dgt c k < 3 := Nat.mod_lt _ (by decide)
def muOK (V : Mi) : Prop := ∀ c k, c < 729 → k < 6 → V 126 (6 * c + k) = nI (dgt c k)
def fxN (c : Nat) : Nat → Nat
  | 0 => 0
  | k + 1 => fxN c k + (if dgt c k < 2 then 1 else 0)
theorem fxN_le (c : Nat) : ∀ k, fxN c k ≤ k := by
  intro k
  induction k with
  | zero => exact Nat.le_refl _
  | succ k ih => rw [fxN]; split <;> omega
theorem fxN_mono (c : Nat) : ∀ d k, fxN c k ≤ fxN c (k + d) := by
  intro d
  induction d with
  | zero => intro k; exact Nat.le_refl _
  | succ d ih => intro k; have := ih k; rw [show k + (d + 1) = (k + d) + 1 by omega, fxN]; omega
def ccN (W : Mi) (f k : Nat) : Nat := (W 144 (729 * f + (W 146 (5 * f + k)).toNatClampNeg)).toNatClampNeg
def ccOK (W : Mi) (f q : Nat) : Prop := ∀ k, k < q → ∃ p, p < 729 ∧ W 146 (5 * f + k) = nI p ∧ W 144 (729 * f + p) = nI (ccN W f k) ∧ ccN W f k < 729
def ltN (cc : Nat → Nat) : Nat → Nat
  | 0 => 0
  | k + 1 => ltN cc k + fxN (cc k) 6
def sgI (k : Nat) : Int32 := nI (if k < 4 then 97 + k else 115 + k - 4)
def wcP (c k : Nat) : List Int32 := if dgt c k = 2 then [] else if dgt c k = 0 then [sgI k, 39] else [sgI k]
def wcL (c : Nat) : Nat → List Int32
  | 0 => if fxN c 6 = 0 then [49] else []
  | k + 1 => wcL c k ++ wcP c k
def waL (cc : Nat → Nat) (q : Nat) : Nat → List Int32
  | 0 => if q = 0 then [48] else []
  | k + 1 => waL cc q k ++ (if 0 < k then [43] else []) ++ wcL (cc k) 6
theorem wcP_len (c k : Nat) : (wcP c k).length ≤ 2 * (if dgt c k < 2 then 1 else 0) := by
  have := dgt_lt c k
  unfold wcP
  split
  · simp
  · split
    · rw [if_pos (by omega)]; simp
    · rw [if_pos (by omega)]; simp
theorem wcL_len0 (c : Nat) : ∀ k, (wcL c k).length ≤ (if fxN c 6 = 0 then 1 else 0) + 2 * fxN c k := by
  intro k
  induction k with
  | zero => rw [wcL]; split <;> simp
  | succ k ih =>
    have := wcP_len c k
    have e : fxN c (k + 1) = fxN c k + (if dgt c k < 2 then 1 else 0) := rfl
    rw [wcL, e, List.length_append]
    omega
theorem wcL_len (c : Nat) {k : Nat} (hk : k ≤ 6) : (wcL c k).length ≤ 12 := by
  have h1 := wcL_len0 c k
  have h2 := fxN_le c k
  have h3 := fxN_mono c (6 - k) k
  rw [show k + (6 - k) = 6 by omega] at h3
  split at h1 <;> omega
theorem waL_len (cc : Nat → Nat) (q : Nat) : ∀ k, k ≤ q → (waL cc q k).length ≤ 13 * k - (if 0 < k then 1 else 0) + (if q = 0 then 1 else 0) := by
  intro k
  induction k with
  | zero => intro _; rw [waL]; split <;> simp
  | succ k ih =>
    intro hk
    have h1 := ih (by omega)
    have h2 := wcL_len (cc k) (Nat.le_refl 6)
    rw [waL, List.length_append, List.length_append, if_pos (Nat.succ_pos k), if_neg (show ¬ q = 0 by omega)]
    rw [if_neg (show ¬ q = 0 by omega)] at h1
    by_cases h : 0 < k
    · rw [if_pos h] at h1 ⊢
      rw [show [(43 : Int32)].length = 1 from rfl]
      omega
    · rw [if_neg h] at h1 ⊢
      rw [show ([] : List Int32).length = 0 from rfl]
      omega
def txM (MI : Mi) (r : Nat → Int32) (L : List Int32) : Mi := u2 (sr MI 149 (layL r L)) 124 43 (nI L.length)
theorem txM_r {MI : Mi} {r : Nat → Int32} {L : List Int32} : txM MI r L 149 = layL r L := by
  unfold txM
  rw [u2_row _ _ (by decide), sr_eq]
theorem txM_c {MI : Mi} {r : Nat → Int32} {L : List Int32} : txM MI r L 124 43 = nI L.length := u2_eq _ _ _ _
theorem txM_b {MI : Mi} {r : Nat → Int32} {L : List Int32} {b : Nat} (h1 : b ≠ 124) (h2 : b ≠ 149) : txM MI r L b = MI b := by
  unfold txM
  rw [u2_row _ _ h1, sr_ne _ _ h2]
theorem txM_F {MI : Mi} {r : Nat → Int32} {L : List Int32} : rF MI (txM MI r L) := ⟨fun b h1 h2 => txM_b h1 (by omega), fun j _ h1 => by unfold txM; rw [u2_ne _ _ (by omega), sr_ne _ _ (by decide)]⟩
theorem ccN_tx {MI : Mi} {r : Nat → Int32} {L : List Int32} (f k : Nat) : ccN (txM MI r L) f k = ccN MI f k := by
  unfold ccN
  rw [txM_b (by decide) (by decide), txM_b (by decide) (by decide)]
theorem ccOK_tx {MI : Mi} {r : Nat → Int32} {L : List Int32} {f q : Nat} (h : ccOK MI f q) : ccOK (txM MI r L) f q := fun k hk => by
  rw [ccN_tx, txM_b (by decide) (by decide), txM_b (by decide) (by decide)]
  exact h k hk
theorem muOK_tx {MI : Mi} {r : Nat → Int32} {L : List Int32} (h : muOK MI) : muOK (txM MI r L) := fun c k hc hk => by
  rw [txM_b (by decide) (by decide)]
  exact h c k hc hk
section rtext
variable {X : xG} {n : Nat} {MI : Nat → Nat → Int32} {ML : Nat → Nat → Int64} {MR : Nat → Nat → Option Nat}
theorem rCc_cc {V W : Mi} {A b f q : Nat} (hA : A ≤ 8) (hf : f < 5) (h : rCc V ML A b W) (h1 : W 141 f = 1) (hq : q ≤ 5) (hc : W 145 f = nI q) : ccOK W f q := by
  rcases h.2 f hf with z | ⟨-, z2, z3⟩
  · rw [h1] at z; exact absurd z (by decide)
  · intro k hk
    have hl := plR_len V ML A f
    obtain ⟨i, hi, he⟩ := cqR_in (by omega) (rqL_len V (nI f) b hA) hq z3 hc k hk
    have he2 : W 146 (5 * f + k) = nI i := he
    have e4 := (rCc_pl hf h z2).2 i hi
    have hlt : (plR V ML A f).getD i 0 < 729 := prQ_lt hi
    have ec : ccN W f k = (plR V ML A f).getD i 0 := by unfold ccN; rw [he2, nI_clamp (by omega), e4, nI_clamp (by omega)]
    exact ⟨i, by omega, he2, by rw [ec]; exact e4, by rw [ec]; exact hlt⟩
set_option maxRecDepth 100000 in
theorem c_X11_chosenCube (hM : x_Lay MR) {f q k : Nat} (hf : f < 5) (hq : q ≤ 5) (h : ccOK MI f q) (hk : k < q) : Cf X yX11_chosenCube cX11_chosenCube 3 (some .int) 1 [.ref 124, .int (nI f), .int (nI k)] n SH MI ML MR (some (.int (nI (ccN MI f k)))) MI ML MR := by
  obtain ⟨p, hp, hpe, hce, hcl⟩ := h k hk
  have eix : (5 : Int32) * nI f + nI k = nI (5 * f + k) := by
    have h1 := pk_mul 5 f
    have h2 := nI_add (5 * f) k
    rw [← h1] at h2
    exact h2
  have e7 : (729 : Int32) * nI f + nI p = nI (729 * f + p) := by
    have h1 := pk_mul 729 f
    have h2 := nI_add (729 * f) p
    rw [← h1] at h2
    exact h2
  refine Ct_of (by decide) (Nat.le_of_ble_eq_true rfl) (fun G hG => ?_)
  refine r_aload_n 0 rfl dX11_chosenCube_0 ?_
  refine r_getr dX11_chosenCube_1 fl_X11_80 rfl (hM _ _ _ rfl) ?_
  refine r_sipush (v := 729) rfl dX11_chosenCube_4 ?_
  refine r_iload_n 1 rfl dX11_chosenCube_7 ?_
  refine r_imul dX11_chosenCube_8 ?_
  refine r_aload_n 0 rfl dX11_chosenCube_9 ?_
  refine r_getr dX11_chosenCube_10 fl_X11_86 rfl (hM _ _ _ rfl) ?_
  refine r_iconst (v := 5) rfl dX11_chosenCube_13 ?_
  refine r_iload_n 1 rfl dX11_chosenCube_14 ?_
  refine r_imul dX11_chosenCube_15 ?_
  refine r_iload_n 2 rfl dX11_chosenCube_16 ?_
  refine r_iadd dX11_chosenCube_17 ?_
  refine r_iald dX11_chosenCube_18 rfl (by rw [eix]; exact vp_in_nI (show 5 * f + k < 25 by omega) (by decide)) ?_
  rw [eix, nI_clamp (by omega), hpe]
  refine r_iadd dX11_chosenCube_19 ?_
  refine r_iald dX11_chosenCube_20 rfl (by rw [e7]; exact vp_in_nI (show 729 * f + p < 3645 by omega) (by decide)) ?_
  rw [e7, nI_clamp (by omega), hce]
  exact r_iret hG dX11_chosenCube_21 (⟨rfl, rfl, rfl, rfl⟩)
set_option maxRecDepth 100000 in
theorem c_X11_fixed (hM : x_Lay MR) (hmu : muOK MI) {c : Nat} (hc : c < 729) : Cf X yX11_fixed cX11_fixed 4 (some .int) 1 [.ref 124, .int (nI c)] n SH MI ML MR (some (.int (nI (fxN c 6)))) MI ML MR := by
  refine Ct_of (by decide) (Nat.le_of_ble_eq_true rfl) (fun G hG => ?_)
  have loop : ∀ i, i ≤ 6 → RW X G RX11 cX11_fixed 4 (x_rm 1 0 0) n SH MI ML MR 0 0 4 [(3, .int (nI i)), (2, .int (nI (fxN c i))), (0, .ref 124), (1, .int (nI c))] [] := by
    refine bwd (fun i hi ih => ?_)
    have hd := dgt_lt c i
    have eix : (6 : Int32) * nI c + nI i = nI (6 * c + i) := by
      have h1 := pk_mul 6 c
      have h2 := nI_add (6 * c) i
      rw [← h1] at h2
      exact h2
    refine r_iload_n 0 rfl dX11_fixed_4 ?_
    refine r_bipush (v := 6) rfl dX11_fixed_5 ?_
    refine r_icmpge (tgt := 39) dX11_fixed_7 (by decide) (fun zh7 => ?_) (fun zh7 => ?_)
    · obtain rfl : i = 6 := by have := geL (k := 6) (by decide) (by omega) zh7; omega
      refine r_iload_n 1 rfl dX11_fixed_39 ?_
      exact r_iret hG dX11_fixed_40 (⟨rfl, rfl, rfl, rfl⟩)
    · have hlt : i < 6 := ltL (by omega) zh7
      refine r_iload_n 1 rfl dX11_fixed_10 ?_
      refine r_aload_n 2 rfl dX11_fixed_11 ?_
      refine r_getr dX11_fixed_12 fl_X11_23 rfl (hM _ _ _ rfl) ?_
      refine r_bipush (v := 6) rfl dX11_fixed_15 ?_
      refine r_iload_n 3 rfl dX11_fixed_17 ?_
      refine r_imul dX11_fixed_18 ?_
      refine r_iload_n 0 rfl dX11_fixed_19 ?_
      refine r_iadd dX11_fixed_20 ?_
      refine r_iald dX11_fixed_21 rfl (by rw [eix]; exact vp_in_nI (show 6 * c + i < 4374 by omega) (by decide)) ?_
      rw [eix, nI_clamp (by omega), hmu c i hc hlt]
      refine r_iconst (v := 2) rfl dX11_fixed_22 ?_
      refine r_icmpge (tgt := 30) dX11_fixed_23 (by decide) (fun zh23 => ?_) (fun zh23 => ?_)
      · refine r_iconst (v := 0) rfl dX11_fixed_30 ?_
        refine r_iadd dX11_fixed_31 ?_
        refine r_nmi (fun zv32 ze32 => ?_)
        refine r_istore_n (ls2 := [(2, .int zv32), (3, .int (nI i)), (0, .ref 124), (1, .int (nI c))]) dX11_fixed_32 (by decide) rfl ?_
        refine r_iinc (v := (nI (i + 1))) (ls2 := [(3, .int (nI (i + 1))), (2, .int zv32), (0, .ref 124), (1, .int (nI c))]) 1 dX11_fixed_33 rfl (x_inc i) (by decide) rfl ?_
        refine r_goto (tgt := 4) dX11_fixed_36 (by decide) ?_
        obtain rfl : zv32 = nI (fxN c (i + 1)) := by
          rw [ze32, fxN]
          first
            | (have y1 : ¬ dgt c i < 2 := fun z => absurd (geL (k := 2) (by decide) (by omega) zh23) (by omega)
               rw [if_neg y1]; exact nI_add _ 0)
            | (have y1 : dgt c i < 2 := ltL (k := 2) (by omega) zh23
               rw [if_pos y1]; exact nI_add _ 1)
        exact r_sub [0, 1, 2, 3] rfl (ih hlt)
      · refine r_iconst (v := 1) rfl dX11_fixed_26 ?_
        refine r_goto (tgt := 31) dX11_fixed_27 (by decide) ?_
        refine r_iadd dX11_fixed_31 ?_
        refine r_nmi (fun zv32 ze32 => ?_)
        refine r_istore_n (ls2 := [(2, .int zv32), (3, .int (nI i)), (0, .ref 124), (1, .int (nI c))]) dX11_fixed_32 (by decide) rfl ?_
        refine r_iinc (v := (nI (i + 1))) (ls2 := [(3, .int (nI (i + 1))), (2, .int zv32), (0, .ref 124), (1, .int (nI c))]) 1 dX11_fixed_33 rfl (x_inc i) (by decide) rfl ?_
        refine r_goto (tgt := 4) dX11_fixed_36 (by decide) ?_
        obtain rfl : zv32 = nI (fxN c (i + 1)) := by
          rw [ze32, fxN]
          first
            | (have y1 : ¬ dgt c i < 2 := fun z => absurd (geL (k := 2) (by decide) (by omega) zh23) (by omega)
               rw [if_neg y1]; exact nI_add _ 0)
            | (have y1 : dgt c i < 2 := ltL (k := 2) (by omega) zh23
               rw [if_pos y1]; exact nI_add _ 1)
        exact r_sub [0, 1, 2, 3] rfl (ih hlt)
  refine r_iconst (v := 0) rfl dX11_fixed_0 ?_
  refine r_istore_n (ls2 := [(2, .int 0), (0, .ref 124), (1, .int (nI c))]) dX11_fixed_1 (by decide) rfl ?_
  refine r_iconst (v := 0) rfl dX11_fixed_2 ?_
  refine r_istore_n (ls2 := [(3, .int 0), (2, .int 0), (0, .ref 124), (1, .int (nI c))]) dX11_fixed_3 (by decide) rfl ?_
  exact r_sub [0, 1, 2, 3] rfl (loop 0 (by decide))
theorem t_writes (hM : x_Lay MR) {r : Nat → Int32} {L : List Int32} {x : Int32} (hL : L.length < 65) (hx : vp_nar .byte x.toInt8.toInt32 = x) : Cf X yX11_writes cX11_writes 2 none 1 [.ref 124, .int x] n SH (txM MI r L) ML MR none (txM MI r (L ++ [x])) ML MR := by
  refine Ct_of (by decide) (Nat.le_of_ble_eq_true rfl) (fun G hG => ?_)
  refine r_aload_n 0 rfl dX11_writes_0 ?_
  refine r_getr dX11_writes_1 fl_X11_95 rfl (hM _ _ _ rfl) ?_
  refine r_aload_n 0 rfl dX11_writes_4 ?_
  refine r_geti dX11_writes_5 fl_X11_427 rfl ?_
  refine r_iload_n 1 rfl dX11_writes_8 ?_
  refine r_i2b dX11_writes_9 ?_
  refine r_bast dX11_writes_10 rfl (by rw [txM_c]; exact vp_in_nI hL (by decide)) ?_
  refine r_aload_n 0 rfl dX11_writes_11 ?_
  refine r_dup rfl dX11_writes_12 ?_
  refine r_geti dX11_writes_13 fl_X11_427 rfl ?_
  refine r_iconst (v := 1) rfl dX11_writes_16 ?_
  refine r_iadd dX11_writes_17 ?_
  refine r_puti dX11_writes_18 fl_X11_427 rfl rfl rfl ?_
  exact r_vret hG dX11_writes_21 (by
      refine ⟨rfl, ?_, rfl, rfl⟩
      rw [u2_row _ _ (show (124 : Nat) ≠ 149 by decide), txM_c, nI_clamp (by omega), nI_1, hx]
      unfold txM
      rw [List.length_append, ← layL_app]
      show _ = u2 (sr MI 149 (up (layL r L) L.length x)) 124 43 (nI (L.length + 1))
      funext b j
      simp only [u2, sr, up]
      grind)
set_option maxRecDepth 100000 in
theorem c_X11_signOf {k : Nat} (hk : k < 6) : Cf X yX11_signOf cX11_signOf 1 (some .int) 1 [.int (nI k)] n SH MI ML MR (some (.int (sgI k))) MI ML MR := by
  refine Ct_of (by decide) (Nat.le_of_ble_eq_true rfl) (fun G hG => ?_)
  refine r_iload_n 0 rfl dX11_signOf_0 ?_
  refine r_iconst (v := 4) rfl dX11_signOf_1 ?_
  refine r_icmpge (tgt := 12) dX11_signOf_2 (by decide) (fun zh2 => ?_) (fun zh2 => ?_)
  · refine r_bipush (v := 115) rfl dX11_signOf_12 ?_
    refine r_iload_n 0 rfl dX11_signOf_14 ?_
    refine r_iadd dX11_signOf_15 ?_
    refine r_iconst (v := 4) rfl dX11_signOf_16 ?_
    refine r_isub dX11_signOf_17 ?_
    exact r_iret hG dX11_signOf_18 (by
        refine ⟨?_, rfl, rfl, rfl⟩
        have hk2 : k = 0 ∨ k = 1 ∨ k = 2 ∨ k = 3 ∨ k = 4 ∨ k = 5 := by omega
        rcases hk2 with rfl | rfl | rfl | rfl | rfl | rfl <;> first | rfl | exact absurd zh2 (by decide) | exact absurd (by decide) zh2)
  · refine r_bipush (v := 97) rfl dX11_signOf_5 ?_
    refine r_iload_n 0 rfl dX11_signOf_7 ?_
    refine r_iadd dX11_signOf_8 ?_
    refine r_goto (tgt := 18) dX11_signOf_9 (by decide) ?_
    exact r_iret hG dX11_signOf_18 (by
        refine ⟨?_, rfl, rfl, rfl⟩
        have hk2 : k = 0 ∨ k = 1 ∨ k = 2 ∨ k = 3 ∨ k = 4 ∨ k = 5 := by omega
        rcases hk2 with rfl | rfl | rfl | rfl | rfl | rfl <;> first | rfl | exact absurd zh2 (by decide) | exact absurd (by decide) zh2)
theorem sgI_nar {k : Nat} (hk : k < 6) : vp_nar .byte (sgI k).toInt8.toInt32 = sgI k := by
  have hk2 : k = 0 ∨ k = 1 ∨ k = 2 ∨ k = 3 ∨ k = 4 ∨ k = 5 := by omega
  rcases hk2 with rfl | rfl | rfl | rfl | rfl | rfl <;> decide
theorem t_writesCube (hM : x_Lay MR) {r : Nat → Int32} {L : List Int32} {c : Nat} (hmu : muOK MI) (hc : c < 729) (hL : L.length ≤ 53) : Cf X yX11_writesCube cX11_writesCube 4 none 2 [.ref 124, .int (nI c)] n SH (txM MI r L) ML MR none (txM MI r (L ++ wcL c 6)) ML MR := by
  refine Ct_of (by decide) (Nat.le_of_ble_eq_true rfl) (fun G hG => ?_)
  have loop : ∀ i, i ≤ 6 → RW X G RX11 cX11_writesCube 4 (x_rm 2 0 0) n SH (txM MI r (L ++ wcL c i)) ML MR 0 0 16 [(2, .int (nI i)), (0, .ref 124), (1, .int (nI c))] [] := by
    refine bwd (fun i hi ih => ?_)
    have hd := dgt_lt c i
    have hl0 : (L ++ wcL c i).length = L.length + (wcL c i).length := List.length_append
    have hl1 : (wcL c (i + 1)).length = (wcL c i).length + (wcP c i).length := List.length_append
    have eix : (6 : Int32) * nI c + nI i = nI (6 * c + i) := by
      have h1 := pk_mul 6 c
      have h2 := nI_add (6 * c) i
      rw [← h1] at h2
      exact h2
    refine r_iload_n 0 rfl dX11_writesCube_16 ?_
    refine r_bipush (v := 6) rfl dX11_writesCube_17 ?_
    refine r_icmpge (tgt := 66) dX11_writesCube_19 (by decide) (fun zh19 => ?_) (fun zh19 => ?_)
    · obtain rfl : i = 6 := by have := geL (k := 6) (by decide) (by omega) zh19; omega
      exact r_vret hG dX11_writesCube_66 (⟨rfl, rfl, rfl, rfl⟩)
    · have hlt : i < 6 := ltL (by omega) zh19
      have hl2 := wcL_len c (show i + 1 ≤ 6 by omega)
      refine r_aload_n 1 rfl dX11_writesCube_22 ?_
      refine r_getr dX11_writesCube_23 fl_X11_23 rfl (hM _ _ _ rfl) ?_
      refine r_bipush (v := 6) rfl dX11_writesCube_26 ?_
      refine r_iload_n 2 rfl dX11_writesCube_28 ?_
      refine r_imul dX11_writesCube_29 ?_
      refine r_iload_n 0 rfl dX11_writesCube_30 ?_
      refine r_iadd dX11_writesCube_31 ?_
      refine r_iald dX11_writesCube_32 rfl (by rw [eix]; exact vp_in_nI (show 6 * c + i < 4374 by omega) (by decide)) ?_
      rw [txM_b (by decide) (by decide), eix, nI_clamp (by omega), hmu c i hc hlt]
      refine r_nmi (fun zv33 ze33 => ?_)
      refine r_istore_n (ls2 := [(3, .int zv33), (2, .int (nI i)), (0, .ref 124), (1, .int (nI c))]) dX11_writesCube_33 (by decide) rfl ?_
      refine r_iload_n 0 rfl dX11_writesCube_34 ?_
      refine r_iconst (v := 2) rfl dX11_writesCube_35 ?_
      refine r_icmpne (tgt := 42) dX11_writesCube_36 (by decide) (fun zh36 => ?_) (fun zh36 => ?_)
      · rw [ze33] at zh36
        have zn2 : ¬ dgt c i = 2 := fun z => zh36 (by rw [z]; rfl)
        have zl1 : (L ++ wcL c i).length < 65 := by
          have : 1 ≤ (wcP c i).length := by unfold wcP; rw [if_neg zn2]; split <;> simp
          omega
        refine r_aload_n 2 rfl dX11_writesCube_42 ?_
        refine r_iload_n 1 rfl dX11_writesCube_43 ?_
        refine r_Sf [.int _] dX11_writesCube_44 lk_X11_433 mb_X11_signOf sc_X11_signOf rfl (c_X11_signOf hlt) rfl (Nat.le_of_ble_eq_true rfl) (rfl) ?_
        refine r_Vn [.int _] dX11_writesCube_47 lk_X11_430 mb_X11_writes in_X11_writes se_X11_writes rfl (t_writes hM zl1 (sgI_nar hlt)) rfl rfl rfl (Nat.le_of_ble_eq_true rfl) (rfl) ?_
        refine r_iload_n 0 rfl dX11_writesCube_50 ?_
        refine r_ifne (tgt := 60) dX11_writesCube_51 (by decide) (fun zh51 => ?_) (fun zh51 => ?_)
        · refine r_iinc (v := (nI (i + 1))) (ls2 := [(2, .int (nI (i + 1))), (3, .int zv33), (0, .ref 124), (1, .int (nI c))]) 1 dX11_writesCube_60 rfl (x_inc i) (by decide) rfl ?_
          refine r_goto (tgt := 16) dX11_writesCube_63 (by decide) ?_
          refine r_mem (congrArg (txM MI r) (?_ : _ = L ++ wcL c (i + 1))) rfl rfl (r_sub [0, 2, 3] rfl (ih hlt))
          rw [wcL]
          unfold wcP
          first
            | (have y1 : dgt c i = 2 := (nI_eq (b := 2) (by omega) (by decide)).mp (ze33.symm.trans zh36)
               rw [if_pos y1, List.append_nil])
            | (rw [if_neg zn2, if_pos zd0]; simp)
            | (have y1 : ¬ dgt c i = 0 := fun z => zh51 (by rw [ze33, z]; rfl)
               rw [if_neg zn2, if_neg y1]; simp)
        · have zd0 : dgt c i = 0 := (nI_eq (b := 0) (by omega) (by decide)).mp (ze33.symm.trans zh51)
          have zl2 : (L ++ wcL c i ++ [sgI i]).length < 65 := by
            have : (wcP c i).length = 2 := by unfold wcP; rw [if_neg zn2, if_pos zd0]; rfl
            rw [List.length_append]
            show _ + 1 < 65
            omega
          refine r_aload_n 2 rfl dX11_writesCube_54 ?_
          refine r_bipush (v := 39) rfl dX11_writesCube_55 ?_
          refine r_Vn [.int _] dX11_writesCube_57 lk_X11_430 mb_X11_writes in_X11_writes se_X11_writes rfl (t_writes hM zl2 (by decide)) rfl rfl rfl (Nat.le_of_ble_eq_true rfl) (rfl) ?_
          refine r_iinc (v := (nI (i + 1))) (ls2 := [(2, .int (nI (i + 1))), (3, .int zv33), (0, .ref 124), (1, .int (nI c))]) 1 dX11_writesCube_60 rfl (x_inc i) (by decide) rfl ?_
          refine r_goto (tgt := 16) dX11_writesCube_63 (by decide) ?_
          refine r_mem (congrArg (txM MI r) (?_ : _ = L ++ wcL c (i + 1))) rfl rfl (r_sub [0, 2, 3] rfl (ih hlt))
          rw [wcL]
          unfold wcP
          first
            | (have y1 : dgt c i = 2 := (nI_eq (b := 2) (by omega) (by decide)).mp (ze33.symm.trans zh36)
               rw [if_pos y1, List.append_nil])
            | (rw [if_neg zn2, if_pos zd0]; simp)
            | (have y1 : ¬ dgt c i = 0 := fun z => zh51 (by rw [ze33, z]; rfl)
               rw [if_neg zn2, if_neg y1]; simp)
      · refine r_goto (tgt := 60) dX11_writesCube_39 (by decide) ?_
        refine r_iinc (v := (nI (i + 1))) (ls2 := [(2, .int (nI (i + 1))), (3, .int zv33), (0, .ref 124), (1, .int (nI c))]) 1 dX11_writesCube_60 rfl (x_inc i) (by decide) rfl ?_
        refine r_goto (tgt := 16) dX11_writesCube_63 (by decide) ?_
        refine r_mem (congrArg (txM MI r) (?_ : _ = L ++ wcL c (i + 1))) rfl rfl (r_sub [0, 2, 3] rfl (ih hlt))
        rw [wcL]
        unfold wcP
        first
          | (have y1 : dgt c i = 2 := (nI_eq (b := 2) (by omega) (by decide)).mp (ze33.symm.trans zh36)
             rw [if_pos y1, List.append_nil])
          | (rw [if_neg zn2, if_pos zd0]; simp)
          | (have y1 : ¬ dgt c i = 0 := fun z => zh51 (by rw [ze33, z]; rfl)
             rw [if_neg zn2, if_neg y1]; simp)
  refine r_aload_n 0 rfl dX11_writesCube_0 ?_
  refine r_iload_n 1 rfl dX11_writesCube_1 ?_
  refine r_Vf [.int _] dX11_writesCube_2 lk_X11_424 mb_X11_fixed in_X11_fixed se_X11_fixed rfl (c_X11_fixed hM (muOK_tx hmu) hc) rfl rfl rfl (Nat.le_of_ble_eq_true rfl) (rfl) ?_
  refine r_ifne (tgt := 14) dX11_writesCube_5 (by decide) (fun zh5 => ?_) (fun zh5 => ?_)
  · refine r_iconst (v := 0) rfl dX11_writesCube_14 ?_
    refine r_istore_n (ls2 := [(2, .int 0), (0, .ref 124), (1, .int (nI c))]) dX11_writesCube_15 (by decide) rfl ?_
    refine r_mem (congrArg (txM MI r) (?_ : _ = L ++ wcL c 0)) rfl rfl (r_sub [0, 1, 2] rfl (loop 0 (by decide)))
    have hf6 := fxN_le c 6
    rw [wcL]
    first
      | (have y1 : fxN c 6 = 0 := (nI_eq (b := 0) (by omega) (by decide)).mp zh5
         rw [if_pos y1])
      | (have y1 : ¬ fxN c 6 = 0 := fun z => zh5 (by rw [z]; rfl)
         rw [if_neg y1, List.append_nil])
  · refine r_aload_n 0 rfl dX11_writesCube_8 ?_
    refine r_bipush (v := 49) rfl dX11_writesCube_9 ?_
    refine r_Vn [.int _] dX11_writesCube_11 lk_X11_430 mb_X11_writes in_X11_writes se_X11_writes rfl (t_writes hM (show L.length < 65 by omega) (by decide)) rfl rfl rfl (Nat.le_of_ble_eq_true rfl) (rfl) ?_
    refine r_iconst (v := 0) rfl dX11_writesCube_14 ?_
    refine r_istore_n (ls2 := [(2, .int 0), (0, .ref 124), (1, .int (nI c))]) dX11_writesCube_15 (by decide) rfl ?_
    refine r_mem (congrArg (txM MI r) (?_ : _ = L ++ wcL c 0)) rfl rfl (r_sub [0, 1, 2] rfl (loop 0 (by decide)))
    have hf6 := fxN_le c 6
    rw [wcL]
    first
      | (have y1 : fxN c 6 = 0 := (nI_eq (b := 0) (by omega) (by decide)).mp zh5
         rw [if_pos y1])
      | (have y1 : ¬ fxN c 6 = 0 := fun z => zh5 (by rw [z]; rfl)
         rw [if_neg y1, List.append_nil])
theorem tx_nil : u2 MI 124 43 0 = txM MI (MI 149) [] := by
  unfold txM
  rw [layL_nil, sr_id]
  rfl
set_option maxRecDepth 100000 in
theorem c_X11_writesAll (hM : x_Lay MR) {f q : Nat} (hmu : muOK MI) (hf : f < 5) (hq : q ≤ 5) (hqe : MI 145 f = nI q) (h : ccOK MI f q) : Cf X yX11_writesAll cX11_writesAll 3 none 3 [.ref 124, .int (nI f)] n SH MI ML MR none (txM MI (MI 149) (waL (ccN MI f) q q)) ML MR := by
  have cf : (nI f).toNatClampNeg = f := nI_clamp (by omega)
  refine Ct_of (by decide) (Nat.le_of_ble_eq_true rfl) (fun G hG => ?_)
  have loop : ∀ i, i ≤ q → RW X G RX11 cX11_writesAll 3 (x_rm 3 0 0) n SH (txM MI (MI 149) (waL (ccN MI f) q i)) ML MR 0 0 22 [(2, .int (nI i)), (0, .ref 124), (1, .int (nI f))] [] := by
    refine bwd (fun i hi ih => ?_)
    have hl0 := waL_len (ccN MI f) q i hi
    refine r_iload_n 0 rfl dX11_writesAll_22 ?_
    refine r_aload_n 1 rfl dX11_writesAll_23 ?_
    refine r_getr dX11_writesAll_24 fl_X11_83 rfl (hM _ _ _ rfl) ?_
    refine r_iload_n 2 rfl dX11_writesAll_27 ?_
    refine r_iald dX11_writesAll_28 rfl (vp_in_nI hf (by decide)) ?_
    rw [txM_b (by decide) (by decide), cf, hqe]
    refine r_icmpge (tgt := 58) dX11_writesAll_29 (by decide) (fun zh29 => ?_) (fun zh29 => ?_)
    · obtain rfl : q = i := by have := geL (k := q) (by omega) (by omega) zh29; omega
      exact r_vret hG dX11_writesAll_58 (⟨rfl, rfl, rfl, rfl⟩)
    · have hlt : i < q := ltL (by omega) zh29
      rw [if_neg (show ¬ q = 0 by omega)] at hl0
      have zl4 : i = 0 → (waL (ccN MI f) q i).length ≤ 53 := fun z => by rw [if_neg (by omega)] at hl0; omega
      refine r_iload_n 0 rfl dX11_writesAll_32 ?_
      refine r_ifle (tgt := 42) dX11_writesAll_33 (by decide) (fun zh33 => ?_) (fun zh33 => ?_)
      · refine r_aload_n 1 rfl dX11_writesAll_42 ?_
        refine r_aload_n 1 rfl dX11_writesAll_43 ?_
        refine r_iload_n 2 rfl dX11_writesAll_44 ?_
        refine r_iload_n 0 rfl dX11_writesAll_45 ?_
        refine r_Vf [.int _, .int _] dX11_writesAll_46 lk_X11_421 mb_X11_chosenCube in_X11_chosenCube se_X11_chosenCube rfl (c_X11_chosenCube hM hf hq (ccOK_tx h) hlt) rfl rfl rfl (Nat.le_of_ble_eq_true rfl) (rfl) ?_
        rw [ccN_tx]
        refine r_Vn [.int _] dX11_writesAll_49 lk_X11_436 mb_X11_writesCube in_X11_writesCube se_X11_writesCube rfl (t_writesCube hM hmu (h i hlt).choose_spec.2.2.2 (by first | exact zl3 | exact zl4 (Nat.eq_zero_of_not_pos fun z => absurd zh33 (Int32.not_le.mpr (nI_lt z (by omega)))))) rfl rfl rfl (Nat.le_of_ble_eq_true rfl) (rfl) ?_
        refine r_iinc (v := (nI (i + 1))) (ls2 := [(2, .int (nI (i + 1))), (0, .ref 124), (1, .int (nI f))]) 0 dX11_writesAll_52 rfl (x_inc i) (by decide) rfl ?_
        refine r_goto (tgt := 22) dX11_writesAll_55 (by decide) ?_
        refine r_mem (congrArg (txM MI (MI 149)) (?_ : _ = waL (ccN MI f) q (i + 1))) rfl rfl (r_sub [0, 1, 2] rfl (ih hlt))
        rw [waL]
        first
          | rw [if_pos zi]
          | (have y1 : ¬ 0 < i := fun z => absurd zh33 (Int32.not_le.mpr (nI_lt z (by omega)))
             rw [if_neg y1, List.append_nil])
      · have zi : 0 < i := Nat.pos_of_ne_zero fun z => zh33 (by rw [z]; exact Int32.le_refl 0)
        rw [if_pos zi] at hl0
        have zl1 : (waL (ccN MI f) q i).length < 65 := by omega
        have zl3 : (waL (ccN MI f) q i ++ [43]).length ≤ 53 := by rw [List.length_append]; show _ + 1 ≤ 53; omega
        refine r_aload_n 1 rfl dX11_writesAll_36 ?_
        refine r_bipush (v := 43) rfl dX11_writesAll_37 ?_
        refine r_Vn [.int _] dX11_writesAll_39 lk_X11_430 mb_X11_writes in_X11_writes se_X11_writes rfl (t_writes hM zl1 (by decide)) rfl rfl rfl (Nat.le_of_ble_eq_true rfl) (rfl) ?_
        refine r_aload_n 1 rfl dX11_writesAll_42 ?_
        refine r_aload_n 1 rfl dX11_writesAll_43 ?_
        refine r_iload_n 2 rfl dX11_writesAll_44 ?_
        refine r_iload_n 0 rfl dX11_writesAll_45 ?_
        refine r_Vf [.int _, .int _] dX11_writesAll_46 lk_X11_421 mb_X11_chosenCube in_X11_chosenCube se_X11_chosenCube rfl (c_X11_chosenCube hM hf hq (ccOK_tx h) hlt) rfl rfl rfl (Nat.le_of_ble_eq_true rfl) (rfl) ?_
        rw [ccN_tx]
        refine r_Vn [.int _] dX11_writesAll_49 lk_X11_436 mb_X11_writesCube in_X11_writesCube se_X11_writesCube rfl (t_writesCube hM hmu (h i hlt).choose_spec.2.2.2 (by first | exact zl3 | exact zl4 (Nat.eq_zero_of_not_pos fun z => absurd zh33 (Int32.not_le.mpr (nI_lt z (by omega)))))) rfl rfl rfl (Nat.le_of_ble_eq_true rfl) (rfl) ?_
        refine r_iinc (v := (nI (i + 1))) (ls2 := [(2, .int (nI (i + 1))), (0, .ref 124), (1, .int (nI f))]) 0 dX11_writesAll_52 rfl (x_inc i) (by decide) rfl ?_
        refine r_goto (tgt := 22) dX11_writesAll_55 (by decide) ?_
        refine r_mem (congrArg (txM MI (MI 149)) (?_ : _ = waL (ccN MI f) q (i + 1))) rfl rfl (r_sub [0, 1, 2] rfl (ih hlt))
        rw [waL]
        first
          | rw [if_pos zi]
          | (have y1 : ¬ 0 < i := fun z => absurd zh33 (Int32.not_le.mpr (nI_lt z (by omega)))
             rw [if_neg y1, List.append_nil])
  refine r_aload_n 0 rfl dX11_writesAll_0 ?_
  refine r_iconst (v := 0) rfl dX11_writesAll_1 ?_
  refine r_puti dX11_writesAll_2 fl_X11_427 rfl rfl rfl ?_
  refine r_mem tx_nil rfl rfl ?_
  refine r_aload_n 0 rfl dX11_writesAll_5 ?_
  refine r_getr dX11_writesAll_6 fl_X11_83 rfl (hM _ _ _ rfl) ?_
  refine r_iload_n 1 rfl dX11_writesAll_9 ?_
  refine r_iald dX11_writesAll_10 rfl (vp_in_nI hf (by decide)) ?_
  rw [txM_b (by decide) (by decide), cf, hqe]
  refine r_ifne (tgt := 20) dX11_writesAll_11 (by decide) (fun zh11 => ?_) (fun zh11 => ?_)
  · refine r_iconst (v := 0) rfl dX11_writesAll_20 ?_
    refine r_istore_n (ls2 := [(2, .int 0), (0, .ref 124), (1, .int (nI f))]) dX11_writesAll_21 (by decide) rfl ?_
    refine r_mem (congrArg (txM MI (MI 149)) (?_ : _ = waL (ccN MI f) q 0)) rfl rfl (r_sub [0, 1, 2] rfl (loop 0 (Nat.zero_le _)))
    rw [waL]
    first
      | (have y1 : q = 0 := (nI_eq (b := 0) (by omega) (by decide)).mp zh11
         rw [if_pos y1]; rfl)
      | (have y1 : ¬ q = 0 := fun z => zh11 (by rw [z]; rfl)
         rw [if_neg y1])
  · refine r_aload_n 0 rfl dX11_writesAll_14 ?_
    refine r_bipush (v := 48) rfl dX11_writesAll_15 ?_
    refine r_Vn [.int _] dX11_writesAll_17 lk_X11_430 mb_X11_writes in_X11_writes se_X11_writes rfl (t_writes (L := []) hM (by decide) (by decide)) rfl rfl rfl (Nat.le_of_ble_eq_true rfl) (rfl) ?_
    refine r_iconst (v := 0) rfl dX11_writesAll_20 ?_
    refine r_istore_n (ls2 := [(2, .int 0), (0, .ref 124), (1, .int (nI f))]) dX11_writesAll_21 (by decide) rfl ?_
    refine r_mem (congrArg (txM MI (MI 149)) (?_ : _ = waL (ccN MI f) q 0)) rfl rfl (r_sub [0, 1, 2] rfl (loop 0 (Nat.zero_le _)))
    rw [waL]
    first
      | (have y1 : q = 0 := (nI_eq (b := 0) (by omega) (by decide)).mp zh11
         rw [if_pos y1]; rfl)
      | (have y1 : ¬ q = 0 := fun z => zh11 (by rw [z]; rfl)
         rw [if_neg y1])
theorem rcT_le {W : Mi} {x : Int32} (h : rcT W x ≤ 0) : rcT W x = 0 := Classical.byContradiction fun z => absurd (rcT_p z) (Int32.not_lt.mpr h)
theorem muOK_F {V W : Mi} (hF : rF V W) (h : muOK V) : muOK W := fun c k hc hk => by
  rw [hF.1 126 (by decide) (by decide)]
  exact h c k hc hk
/-- what FEWEST keeps, as cubes -/
theorem cc_of {V W : Mi} {A b : Nat} {x : Int32} (hA : A ≤ 8) (hC : rCc V ML A b W) (h1 : rTr W x = 0 → W 141 x.toNatClampNeg = 1) (h : rcT W x = 0) : ∃ f q, f < 5 ∧ x = nI f ∧ q ≤ 5 ∧ W 145 f = nI q ∧ ccOK W f q := by
  obtain ⟨h0, f, hf, rfl, hb5⟩ := rcT_0 h
  obtain ⟨q, hq, hqe⟩ := inB_ex (N := 5) (by decide) hb5
  have h2 := h1 h0
  rw [nI_clamp (show f < 2 ^ 31 by omega)] at h2
  exact ⟨f, q, hf, rfl, by omega, hqe, rCc_cc hA hf hC h2 (by omega) hqe⟩
def wcA (W : Mi) (x : Int32) : List Int32 := waL (ccN W x.toNatClampNeg) (W 145 x.toNatClampNeg).toNatClampNeg (W 145 x.toNatClampNeg).toNatClampNeg
set_option maxRecDepth 100000 in
theorem c_X11_literals (hM : x_Lay MR) {A S b : Nat} (hm : rMc MI A S b) (hc : rCc MI ML A b MI) (hmu : muOK MI) {x : Int32} : Ct X yX11_literals cX11_literals 5 (some .int) 12 0 0 [.ref 124, .int x] n SH MI ML MR n SH (rQ MI ML MR A b (fun W a w => (rTr W x = 0 → W 141 x.toNatClampNeg = 1) ∧ if rcT W x = 0 then a = nI (ltN (ccN W x.toNatClampNeg) (W 145 x.toNatClampNeg).toNatClampNeg) ∧ w = 0 else a = -1 ∧ w = rcT W x)) := by
  obtain ⟨V, hV⟩ : ∃ V, V = th MI := ⟨_, rfl⟩
  have hmV : rMc V A S b := by rw [hV]; exact rMc_th hm
  have hcV : rCc V ML A b V := by rw [hV]; exact rCc_th hc
  have hmuV : muOK V := by rw [hV]; exact hmu
  refine Ct_of (by decide) (Nat.le_of_ble_eq_true rfl) (fun G hG => ?_)
  have j21 : ∀ zW zB, (∀ c, c ≠ 148 → zB c = ML c) → rF V zW → rCc V ML A b zW → (rTr zW x = 0 → zW 141 x.toNatClampNeg = 1) → rcT zW x = 0 → RW X G RX11 cX11_literals 5 (x_rm 12 0 0) n SH zW zB MR 0 0 21 [(2, .int (rcT zW x)), (0, .ref 124), (1, .int x)] [] := by
    intro zW zB zB1 zF zC1 z1 h1
    have hend : ∀ a w, (if rcT zW x = 0 then a = nI (ltN (ccN zW x.toNatClampNeg) (zW 145 x.toNatClampNeg).toNatClampNeg) ∧ w = 0 else a = -1 ∧ w = rcT zW x) → rQ MI ML MR A b (fun W a w => (rTr W x = 0 → W 141 x.toNatClampNeg = 1) ∧ if rcT W x = 0 then a = nI (ltN (ccN W x.toNatClampNeg) (W 145 x.toNatClampNeg).toNatClampNeg) ∧ w = 0 else a = -1 ∧ w = rcT W x) (some (.int a)) (rfM zW w) zB MR := fun a w h => rq_end (by rw [← hV]; exact zF) zB1 (by rw [← hV]; exact zC1) ⟨z1, h⟩
    obtain ⟨f, q, hf, rfl, hq, hqe, hcc⟩ := cc_of hmV.1 zC1 z1 h1
    have cf : (nI f).toNatClampNeg = f := nI_clamp (by omega)
    have loop : ∀ i, i ≤ q → RW X G RX11 cX11_literals 5 (x_rm 12 0 0) n SH zW zB MR 0 0 26 [(4, .int (nI i)), (3, .int (nI (ltN (ccN zW f) i))), (2, .int (rcT zW (nI f))), (0, .ref 124), (1, .int (nI f))] [] := by
      refine bwd (fun i hi ih => ?_)
      refine r_iload 0 rfl dX11_literals_26 ?_
      refine r_aload_n 3 rfl dX11_literals_28 ?_
      refine r_getr dX11_literals_29 fl_X11_83 rfl (hM _ _ _ rfl) ?_
      refine r_iload_n 4 rfl dX11_literals_32 ?_
      refine r_iald dX11_literals_33 rfl (vp_in_nI hf (by decide)) ?_
      rw [cf, hqe]
      refine r_icmpge (tgt := 57) dX11_literals_34 (by decide) (fun zh34 => ?_) (fun zh34 => ?_)
      · obtain rfl : q = i := by have := geL (k := q) (by omega) (by omega) zh34; omega
        refine r_aload_n 3 rfl dX11_literals_57 ?_
        refine r_iload_n 1 rfl dX11_literals_58 ?_
        refine r_Vf [.int _] dX11_literals_59 lk_X11_267 mb_X11_good in_X11_good se_X11_good rfl (c_X11_good) rfl rfl rfl (Nat.le_of_ble_eq_true rfl) (rfl) ?_
        exact r_iret hG dX11_literals_62 (hend _ _ (by rw [if_pos h1, cf, hqe, nI_clamp (show q < 2 ^ 31 by omega)]; exact ⟨rfl, rfl⟩))
      · have hlt : i < q := ltL (by omega) zh34
        refine r_iload_n 1 rfl dX11_literals_37 ?_
        refine r_aload_n 3 rfl dX11_literals_38 ?_
        refine r_aload_n 3 rfl dX11_literals_39 ?_
        refine r_iload_n 4 rfl dX11_literals_40 ?_
        refine r_iload 0 rfl dX11_literals_41 ?_
        refine r_Vf [.int _, .int _] dX11_literals_43 lk_X11_421 mb_X11_chosenCube in_X11_chosenCube se_X11_chosenCube rfl (c_X11_chosenCube hM hf hq hcc hlt) rfl rfl rfl (Nat.le_of_ble_eq_true rfl) (rfl) ?_
        refine r_Vf [.int _] dX11_literals_46 lk_X11_424 mb_X11_fixed in_X11_fixed se_X11_fixed rfl (c_X11_fixed hM (muOK_F zF hmuV) (hcc i hlt).choose_spec.2.2.2) rfl rfl rfl (Nat.le_of_ble_eq_true rfl) (rfl) ?_
        refine r_iadd dX11_literals_49 ?_
        refine r_nmi (fun zv50 ze50 => ?_)
        refine r_istore_n (ls2 := [(3, .int zv50), (4, .int (nI i)), (2, .int (rcT zW (nI f))), (0, .ref 124), (1, .int (nI f))]) dX11_literals_50 (by decide) rfl ?_
        refine r_iinc (v := (nI (i + 1))) (ls2 := [(4, .int (nI (i + 1))), (3, .int zv50), (2, .int (rcT zW (nI f))), (0, .ref 124), (1, .int (nI f))]) 1 dX11_literals_51 rfl (x_inc i) (by decide) rfl ?_
        refine r_goto (tgt := 26) dX11_literals_54 (by decide) ?_
        obtain rfl : zv50 = nI (ltN (ccN zW f) (i + 1)) := by rw [ze50, ltN]; exact nI_add _ _
        exact r_sub [0, 1, 2, 3, 4] rfl (ih hlt)
    refine r_iconst (v := 0) rfl dX11_literals_21 ?_
    refine r_istore_n (ls2 := [(3, .int 0), (2, .int (rcT zW (nI f))), (0, .ref 124), (1, .int (nI f))]) dX11_literals_22 (by decide) rfl ?_
    refine r_iconst (v := 0) rfl dX11_literals_23 ?_
    refine r_istore (ls2 := [(4, .int 0), (3, .int 0), (2, .int (rcT zW (nI f))), (0, .ref 124), (1, .int (nI f))]) dX11_literals_24 (by decide) rfl ?_
    exact r_sub [0, 1, 2, 3, 4] rfl (loop 0 (Nat.zero_le _))
  refine r_aload_n 0 rfl dX11_literals_0 ?_
  refine r_iconst (v := 0) rfl dX11_literals_1 ?_
  refine r_puti dX11_literals_2 fl_X11_3 rfl rfl rfl ?_
  refine r_mem hV.symm rfl rfl ?_
  refine r_aload_n 0 rfl dX11_literals_5 ?_
  refine r_iload_n 1 rfl dX11_literals_6 ?_
  refine r_Vg [.int _] dX11_literals_7 lk_X11_418 mb_X11_refusesCover in_X11_refusesCover se_X11_refusesCover rfl (c_X11_refusesCover hM hmV hcV) rfl rfl rfl (Nat.le_of_ble_eq_true rfl) (rfl) (fun r zW zB zC hz => ?_)
  obtain ⟨rfl, zB1, zF, zC1, z1, rfl⟩ := hz
  show RW X G _ _ _ _ _ _ _ _ _ _ _ _ _ [.int (rcT zW x)]
  refine r_istore_n (ls2 := [(2, .int (rcT zW x)), (0, .ref 124), (1, .int x)]) dX11_literals_10 (by decide) rfl ?_
  refine r_iload_n 0 rfl dX11_literals_11 ?_
  refine r_ifle (tgt := 21) dX11_literals_12 (by decide) (fun zh12 => ?_) (fun zh12 => ?_)
  · exact r_sub [0, 1, 2] rfl (j21 zW zB zB1 zF zC1 z1 (rcT_le zh12))
  · refine r_aload_n 1 rfl dX11_literals_15 ?_
    refine r_iload_n 0 rfl dX11_literals_16 ?_
    refine r_Vf [.int _] dX11_literals_17 lk_X11_251 mb_X11_refused in_X11_refused se_X11_refused rfl (c_X11_refused) rfl rfl rfl (Nat.le_of_ble_eq_true rfl) (rfl) ?_
    exact r_iret hG dX11_literals_20 (rq_end (by rw [← hV]; exact zF) zB1 (by rw [← hV]; exact zC1) ⟨z1, by have zc : ¬ rcT zW x = 0 := fun z => zh12 (by rw [z]; exact Int32.le_refl 0); exact (if_neg zc).mpr ⟨rfl, rfl⟩⟩)
theorem rCc_tx {V W : Mi} {A b : Nat} {r : Nat → Int32} {L : List Int32} (h : rCc V ML A b W) : rCc V ML A b (txM W r L) := by
  refine ⟨fun g hg => ?_, fun g hg => ?_⟩
  · rw [txM_b (by decide) (by decide), txM_b (by decide) (by decide), txM_b (by decide) (by decide)]; exact h.1 g hg
  · rw [txM_b (b := 141) (by decide) (by decide), txM_b (b := 140) (by decide) (by decide), txM_b (b := 145) (by decide) (by decide), txM_b (b := 146) (by decide) (by decide)]; exact h.2 g hg
set_option maxRecDepth 100000 in
theorem c_X11_formula (hM : x_Lay MR) {A S b : Nat} (hm : rMc MI A S b) (hc : rCc MI ML A b MI) (hmu : muOK MI) {x : Int32} : Ct X yX11_formula cX11_formula 3 (some .int) 12 0 0 [.ref 124, .int x] n SH MI ML MR n SH (rQ MI ML MR A b (fun W a w => (rTr W x = 0 → W 141 x.toNatClampNeg = 1) ∧ if rcT W x = 0 then a = nI (wcA W x).length ∧ w = 0 else a = -1 ∧ w = rcT W x)) := by
  obtain ⟨V, hV⟩ : ∃ V, V = th MI := ⟨_, rfl⟩
  have hmV : rMc V A S b := by rw [hV]; exact rMc_th hm
  have hcV : rCc V ML A b V := by rw [hV]; exact rCc_th hc
  have hmuV : muOK V := by rw [hV]; exact hmu
  refine Ct_of (by decide) (Nat.le_of_ble_eq_true rfl) (fun G hG => ?_)
  have j21 : ∀ zW zB, (∀ c, c ≠ 148 → zB c = ML c) → rF V zW → rCc V ML A b zW → (rTr zW x = 0 → zW 141 x.toNatClampNeg = 1) → rcT zW x = 0 → RW X G RX11 cX11_formula 3 (x_rm 12 0 0) n SH zW zB MR 0 0 21 [(2, .int (rcT zW x)), (0, .ref 124), (1, .int x)] [] := by
    intro zW zB zB1 zF zC1 z1 h1
    obtain ⟨f, q, hf, rfl, hq, hqe, hcc⟩ := cc_of hmV.1 zC1 z1 h1
    have cf : (nI f).toNatClampNeg = f := nI_clamp (by omega)
    have ea : wcA zW (nI f) = waL (ccN zW f) q q := by unfold wcA; rw [cf, hqe, nI_clamp (by omega)]
    refine r_aload_n 1 rfl dX11_formula_21 ?_
    refine r_iload_n 2 rfl dX11_formula_22 ?_
    refine r_Vn [.int _] dX11_formula_23 lk_X11_439 mb_X11_writesAll in_X11_writesAll se_X11_writesAll rfl (c_X11_writesAll hM (muOK_F zF hmuV) hf hq hqe hcc) rfl rfl rfl (Nat.le_of_ble_eq_true rfl) (rfl) ?_
    refine r_aload_n 1 rfl dX11_formula_26 ?_
    refine r_aload_n 1 rfl dX11_formula_27 ?_
    refine r_geti dX11_formula_28 fl_X11_427 rfl ?_
    rw [txM_c, ← ea]
    refine r_Vf [.int _] dX11_formula_31 lk_X11_267 mb_X11_good in_X11_good se_X11_good rfl (c_X11_good) rfl rfl rfl (Nat.le_of_ble_eq_true rfl) (rfl) ?_
    exact r_iret hG dX11_formula_34 (rq_end (by rw [← hV]; exact rF_tr zF txM_F) zB1 (by rw [← hV]; exact rCc_tx zC1) ⟨z1, (if_pos h1).mpr ⟨rfl, rfl⟩⟩)
  refine r_aload_n 0 rfl dX11_formula_0 ?_
  refine r_iconst (v := 0) rfl dX11_formula_1 ?_
  refine r_puti dX11_formula_2 fl_X11_3 rfl rfl rfl ?_
  refine r_mem hV.symm rfl rfl ?_
  refine r_aload_n 0 rfl dX11_formula_5 ?_
  refine r_iload_n 1 rfl dX11_formula_6 ?_
  refine r_Vg [.int _] dX11_formula_7 lk_X11_418 mb_X11_refusesCover in_X11_refusesCover se_X11_refusesCover rfl (c_X11_refusesCover hM hmV hcV) rfl rfl rfl (Nat.le_of_ble_eq_true rfl) (rfl) (fun r zW zB zC hz => ?_)
  obtain ⟨rfl, zB1, zF, zC1, z1, rfl⟩ := hz
  show RW X G _ _ _ _ _ _ _ _ _ _ _ _ _ [.int (rcT zW x)]
  refine r_istore_n (ls2 := [(2, .int (rcT zW x)), (0, .ref 124), (1, .int x)]) dX11_formula_10 (by decide) rfl ?_
  refine r_iload_n 0 rfl dX11_formula_11 ?_
  refine r_ifle (tgt := 21) dX11_formula_12 (by decide) (fun zh12 => ?_) (fun zh12 => ?_)
  · exact r_sub [0, 1, 2] rfl (j21 zW zB zB1 zF zC1 z1 (rcT_le zh12))
  · refine r_aload_n 1 rfl dX11_formula_15 ?_
    refine r_iload_n 0 rfl dX11_formula_16 ?_
    refine r_Vf [.int _] dX11_formula_17 lk_X11_251 mb_X11_refused in_X11_refused se_X11_refused rfl (c_X11_refused) rfl rfl rfl (Nat.le_of_ble_eq_true rfl) (rfl) ?_
    exact r_iret hG dX11_formula_20 (rq_end (by rw [← hV]; exact zF) zB1 (by rw [← hV]; exact zC1) ⟨z1, by have zc : ¬ rcT zW x = 0 := fun z => zh12 (by rw [z]; exact Int32.le_refl 0); exact (if_neg zc).mpr ⟨rfl, rfl⟩⟩)
set_option maxRecDepth 100000 in
theorem c_X11_sign (hM : x_Lay MR) {A S b : Nat} (hm : rMc MI A S b) (hc : rCc MI ML A b MI) (hmu : muOK MI) {x y : Int32} : Ct X yX11_sign cX11_sign 4 (some .int) 12 0 0 [.ref 124, .int x, .int y] n SH MI ML MR n SH (rQ MI ML MR A b (fun W a w => (rTr W x = 0 → W 141 x.toNatClampNeg = 1) ∧ if rcT W x = 0 then (if inR y (nI (wcA W x).length) = true then a = (wcA W x).getD y.toNatClampNeg 0 ∧ w = 0 else a = -1 ∧ w = 1) else a = -1 ∧ w = rcT W x)) := by
  obtain ⟨V, hV⟩ : ∃ V, V = th MI := ⟨_, rfl⟩
  have hmV : rMc V A S b := by rw [hV]; exact rMc_th hm
  have hcV : rCc V ML A b V := by rw [hV]; exact rCc_th hc
  have hmuV : muOK V := by rw [hV]; exact hmu
  refine Ct_of (by decide) (Nat.le_of_ble_eq_true rfl) (fun G hG => ?_)
  have j21 : ∀ zW zB, (∀ c, c ≠ 148 → zB c = ML c) → rF V zW → rCc V ML A b zW → (rTr zW x = 0 → zW 141 x.toNatClampNeg = 1) → rcT zW x = 0 → RW X G RX11 cX11_sign 4 (x_rm 12 0 0) n SH zW zB MR 0 0 21 [(3, .int (rcT zW x)), (0, .ref 124), (1, .int x), (2, .int y)] [] := by
    intro zW zB zB1 zF zC1 z1 h1
    obtain ⟨f, q, hf, rfl, hq, hqe, hcc⟩ := cc_of hmV.1 zC1 z1 h1
    have cf : (nI f).toNatClampNeg = f := nI_clamp (by omega)
    have ea : wcA zW (nI f) = waL (ccN zW f) q q := by unfold wcA; rw [cf, hqe, nI_clamp (by omega)]
    have hl := waL_len (ccN zW f) q q (Nat.le_refl _)
    have hl2 : (wcA zW (nI f)).length ≤ 65 := by rw [ea]; split at hl <;> split at hl <;> omega
    by_cases h2 : inR y (nI (wcA zW (nI f)).length) = true
    · obtain ⟨k, hk, rfl⟩ := inR_ex (by omega) (inR_t.mp h2).1 (inR_t.mp h2).2
      refine r_aload_n 1 rfl dX11_sign_21 ?_
      refine r_iload_n 2 rfl dX11_sign_22 ?_
      refine r_Vn [.int _] dX11_sign_23 lk_X11_439 mb_X11_writesAll in_X11_writesAll se_X11_writesAll rfl (c_X11_writesAll hM (muOK_F zF hmuV) hf hq hqe hcc) rfl rfl rfl (Nat.le_of_ble_eq_true rfl) (rfl) ?_
      refine r_iload_n 3 rfl dX11_sign_26 ?_
      refine r_iflt (tgt := 38) dX11_sign_27 (by decide) (fun zh27 => ?_) (fun zh27 => ?_)
      · exact absurd zh27 (nI_pos (by omega))
      refine r_iload_n 3 rfl dX11_sign_30 ?_
      refine r_aload_n 1 rfl dX11_sign_31 ?_
      refine r_geti dX11_sign_32 fl_X11_427 rfl ?_
      refine r_icmplt (tgt := 44) dX11_sign_35 (by decide) (fun zh35 => ?_) (fun zh35 => ?_)
      rotate_left
      · exact absurd zh35 (fun q => q (by rw [txM_c, ← ea]; exact nI_lt hk (by omega)))
      refine r_aload_n 1 rfl dX11_sign_44 ?_
      refine r_aload_n 1 rfl dX11_sign_45 ?_
      refine r_getr dX11_sign_46 fl_X11_95 rfl (hM _ _ _ rfl) ?_
      refine r_iload_n 3 rfl dX11_sign_49 ?_
      refine r_bald dX11_sign_50 rfl (vp_in_nI (show k < 65 by omega) (by decide)) ?_
      rw [txM_r, ← ea, nI_clamp (by omega), layL_lt hk]
      refine r_Vf [.int _] dX11_sign_51 lk_X11_267 mb_X11_good in_X11_good se_X11_good rfl (c_X11_good) rfl rfl rfl (Nat.le_of_ble_eq_true rfl) (rfl) ?_
      exact r_iret hG dX11_sign_54 (rq_end (by rw [← hV]; exact rF_tr zF txM_F) zB1 (by rw [← hV]; exact rCc_tx zC1) ⟨z1, (if_pos h1).mpr ((if_pos h2).mpr ⟨by rw [nI_clamp (show k < 2 ^ 31 by omega)]; rfl, rfl⟩)⟩)
    ·
      refine r_aload_n 1 rfl dX11_sign_21 ?_
      refine r_iload_n 2 rfl dX11_sign_22 ?_
      refine r_Vn [.int _] dX11_sign_23 lk_X11_439 mb_X11_writesAll in_X11_writesAll se_X11_writesAll rfl (c_X11_writesAll hM (muOK_F zF hmuV) hf hq hqe hcc) rfl rfl rfl (Nat.le_of_ble_eq_true rfl) (rfl) ?_
      refine r_iload_n 3 rfl dX11_sign_26 ?_
      refine r_iflt (tgt := 38) dX11_sign_27 (by decide) (fun zh27 => ?_) (fun zh27 => ?_)
      · refine r_aload_n 1 rfl dX11_sign_38 ?_
        refine r_iconst (v := 1) rfl dX11_sign_39 ?_
        refine r_Vf [.int _] dX11_sign_40 lk_X11_251 mb_X11_refused in_X11_refused se_X11_refused rfl (c_X11_refused) rfl rfl rfl (Nat.le_of_ble_eq_true rfl) (rfl) ?_
        exact r_iret hG dX11_sign_43 (rq_end (by rw [← hV]; exact rF_tr zF txM_F) zB1 (by rw [← hV]; exact rCc_tx zC1) ⟨z1, (if_pos h1).mpr ((if_neg h2).mpr ⟨rfl, rfl⟩)⟩)
      · refine r_iload_n 3 rfl dX11_sign_30 ?_
        refine r_aload_n 1 rfl dX11_sign_31 ?_
        refine r_geti dX11_sign_32 fl_X11_427 rfl ?_
        refine r_icmplt (tgt := 44) dX11_sign_35 (by decide) (fun zh35 => ?_) (fun zh35 => ?_)
        · rw [txM_c, ← ea] at zh35
          exact absurd (inR_t.mpr ⟨zh27, Int32.not_le.mpr zh35⟩) h2
        · refine r_aload_n 1 rfl dX11_sign_38 ?_
          refine r_iconst (v := 1) rfl dX11_sign_39 ?_
          refine r_Vf [.int _] dX11_sign_40 lk_X11_251 mb_X11_refused in_X11_refused se_X11_refused rfl (c_X11_refused) rfl rfl rfl (Nat.le_of_ble_eq_true rfl) (rfl) ?_
          exact r_iret hG dX11_sign_43 (rq_end (by rw [← hV]; exact rF_tr zF txM_F) zB1 (by rw [← hV]; exact rCc_tx zC1) ⟨z1, (if_pos h1).mpr ((if_neg h2).mpr ⟨rfl, rfl⟩)⟩)
  refine r_aload_n 0 rfl dX11_sign_0 ?_
  refine r_iconst (v := 0) rfl dX11_sign_1 ?_
  refine r_puti dX11_sign_2 fl_X11_3 rfl rfl rfl ?_
  refine r_mem hV.symm rfl rfl ?_
  refine r_aload_n 0 rfl dX11_sign_5 ?_
  refine r_iload_n 1 rfl dX11_sign_6 ?_
  refine r_Vg [.int _] dX11_sign_7 lk_X11_418 mb_X11_refusesCover in_X11_refusesCover se_X11_refusesCover rfl (c_X11_refusesCover hM hmV hcV) rfl rfl rfl (Nat.le_of_ble_eq_true rfl) (rfl) (fun r zW zB zC hz => ?_)
  obtain ⟨rfl, zB1, zF, zC1, z1, rfl⟩ := hz
  show RW X G _ _ _ _ _ _ _ _ _ _ _ _ _ [.int (rcT zW x)]
  refine r_istore_n (ls2 := [(3, .int (rcT zW x)), (0, .ref 124), (1, .int x), (2, .int y)]) dX11_sign_10 (by decide) rfl ?_
  refine r_iload_n 0 rfl dX11_sign_11 ?_
  refine r_ifle (tgt := 21) dX11_sign_12 (by decide) (fun zh12 => ?_) (fun zh12 => ?_)
  · exact r_sub [0, 1, 2, 3] rfl (j21 zW zB zB1 zF zC1 z1 (rcT_le zh12))
  · refine r_aload_n 1 rfl dX11_sign_15 ?_
    refine r_iload_n 0 rfl dX11_sign_16 ?_
    refine r_Vf [.int _] dX11_sign_17 lk_X11_251 mb_X11_refused in_X11_refused se_X11_refused rfl (c_X11_refused) rfl rfl rfl (Nat.le_of_ble_eq_true rfl) (rfl) ?_
    exact r_iret hG dX11_sign_20 (rq_end (by rw [← hV]; exact zF) zB1 (by rw [← hV]; exact zC1) ⟨z1, by have zc : ¬ rcT zW x = 0 := fun z => zh12 (by rw [z]; exact Int32.le_refl 0); exact (if_neg zc).mpr ⟨rfl, rfl⟩⟩)
end rtext

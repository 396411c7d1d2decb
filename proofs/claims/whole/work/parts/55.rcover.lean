/-! the reference: which REQUIRED CUBES lie in PRIMES; covers -/
def cbO (H : Nat → Int64) (but : Int32) : Nat → Int64
  | 0 => 0
  | k + 1 => if nI k = but then cbO H but k else cbO H but k ||| H k
def ndN (H : Nat → Int64) (np : Nat) : Nat → Nat
  | 0 => 0
  | k + 1 => ndN H np k + (if H k &&& (cbO H (nI k) np ^^^ -1) = 0 then 0 else 1)
def lcO (s : Int64) (K : Nat) : Option Nat := (List.range K).find? (fun k => !hasL s (nI k))
/-- the last PRIME that has a bit -/
def lsI (H : Nat → Int64) (k : Int32) : Nat → Nat
  | 0 => 0
  | m + 1 => if hasL (H m) k = true then m else lsI H k m
def lsV (H : Nat → Int64) (np : Nat) (left : Int64) : Nat → Nat
  | 0 => np
  | k + 1 => if hasL left (nI k) = true then (if lsI H (nI k) np < lsV H np left k then lsI H (nI k) np else lsV H np left k) else lsV H np left k
/-- the loop of chooses: c PRIMES from i on; rec: one deeper -/
def choL (H : Nat → Int64) (left : Int64) (k : Nat) (rec : Nat → Int64 → (Nat → Int32) → Bool × (Nat → Int32)) : Nat → Nat → (Nat → Int32) → Bool × (Nat → Int32)
  | 0, _, row => (false, row)
  | c + 1, i, row => if H i &&& left = 0 then choL H left k rec c (i + 1) row else if (rec (i + 1) (left &&& (H i ^^^ -1)) (up row k (nI i))).1 = true then (true, (rec (i + 1) (left &&& (H i ^^^ -1)) (up row k (nI i))).2) else choL H left k rec c (i + 1) (rec (i + 1) (left &&& (H i ^^^ -1)) (up row k (nI i))).2
/-- chooses: m PRIMES more, k are chosen -/
def cho (H : Nat → Int64) (np nr : Nat) : Nat → Nat → Nat → Int64 → (Nat → Int32) → Bool × (Nat → Int32)
  | 0, _, _, left, row => (decide (left = 0), row)
  | m + 1, k, fm, left, row => if left = 0 then (false, row) else choL H left k (cho H np nr m (k + 1)) (lsV H np left nr + 1 - fm) fm row
theorem nqF_in (fp fr : Int32) : ∀ k x, x ∈ nqF fp fr k → ∃ m, m < 729 ∧ x = nI m
  | 0, x, h => by cases h
  | k + 1, x, h => by
    rw [nqF] at h
    split at h
    · rcases List.mem_append.mp h with h | h
      · exact nqF_in fp fr k x h
      · rw [List.mem_singleton.mp h]; exact numC_in _ _
    · exact nqF_in fp fr k x h
theorem nqA_in (V : Mi) (x : Int32) (i : Nat) : ∀ y, y ∈ nqA V x i → ∃ m, m < 729 ∧ y = nI m := by
  intro y h
  unfold nqA at h
  simp only at h
  rcases List.mem_append.mp h with h | h
  · split at h
    · rw [List.mem_singleton.mp h]; exact numC_in _ _
    · cases h
  · rcases List.mem_append.mp h with h | h
    · split at h
      · exact nqF_in _ _ 4 y h
      · cases h
    · split at h
      · rw [List.mem_singleton.mp h]; exact numC_in _ _
      · cases h
theorem addL_in {L : List Int32} {x y : Int32} (h : y ∈ addL L x) : y ∈ L ∨ y = x := by
  unfold addL at h
  split at h
  · exact Or.inl h
  · rcases List.mem_append.mp h with h | h
    · exact Or.inl h
    · exact Or.inr (List.mem_singleton.mp h)
theorem addAll_in {y : Int32} : ∀ (xs L : List Int32), y ∈ addAll L xs → y ∈ L ∨ y ∈ xs
  | [], L, h => Or.inl h
  | x :: xs, L, h => by
    rcases addAll_in xs (addL L x) h with h | h
    · rcases addL_in h with h | h
      · exact Or.inl h
      · exact Or.inr (by rw [h]; exact List.mem_cons_self)
    · exact Or.inr (List.mem_cons_of_mem _ h)
theorem rqA_in (V : Mi) (x : Int32) : ∀ k y, y ∈ rqA V x k → ∃ m, m < 729 ∧ y = nI m
  | 0, y, h => by cases h
  | k + 1, y, h => by
    rcases addAll_in _ _ h with h | h
    · exact rqA_in V x k y h
    · exact nqA_in V x k y h
theorem rqL_in (V : Mi) (x : Int32) (A b : Nat) : ∀ y, y ∈ rqL V x A b → ∃ m, m < 729 ∧ y = nI m := by
  intro y h
  unfold rqL at h
  split at h
  · rcases addL_in h with h | h
    · exact rqA_in V x A y h
    · rw [h]; exact numC_in _ _
  · exact rqA_in V x A y h
/-- the numbers of a list of CUBES -/
def ndx (L : List Int32) (k : Nat) : Nat := (L.getD k 0).toNatClampNeg
theorem ndx_in {L : List Int32} (h : ∀ y, y ∈ L → ∃ m, m < 729 ∧ y = nI m) {k : Nat} (hk : k < L.length) : ndx L k < 729 ∧ L.getD k 0 = nI (ndx L k) := by
  obtain ⟨m, hm, e⟩ := h (L.getD k 0) (by rw [gDe _ hk]; exact List.getElem_mem hk)
  unfold ndx
  rw [e, nI_clamp (by omega)]
  exact ⟨hm, rfl⟩
theorem lsI_lt {H : Nat → Int64} {k : Int32} : ∀ m, 0 < m → lsI H k m < m
  | 0, h => absurd h (Nat.lt_irrefl 0)
  | m + 1, _ => by
    rw [lsI]
    split
    · omega
    · cases m with
      | zero => exact Nat.lt_succ_of_le (Nat.le_refl _)
      | succ m => have := lsI_lt (H := H) (k := k) (m + 1) (Nat.succ_pos m); omega
theorem lsV_le {H : Nat → Int64} {np : Nat} {left : Int64} : ∀ k, lsV H np left k ≤ np
  | 0 => Nat.le_refl _
  | k + 1 => by
    have := lsV_le (H := H) (np := np) (left := left) k
    rw [lsV]
    split
    · split <;> omega
    · exact this
theorem lsV_lt {H : Nat → Int64} {np : Nat} {left : Int64} (hnp : 0 < np) : ∀ k j, j < k → hasL left (nI j) = true → lsV H np left k < np
  | 0, j, h, _ => absurd h (Nat.not_lt_zero j)
  | k + 1, j, h, hb => by
    rw [lsV]
    have h1 := lsI_lt (H := H) (k := nI k) np hnp
    have h3 := lsV_le (H := H) (np := np) (left := left) k
    by_cases e : j = k
    · subst e
      rw [if_pos hb]
      split <;> omega
    · have h2 := lsV_lt (H := H) (left := left) hnp k j (by omega) hb
      split
      · split <;> omega
      · exact h2
section rcover
variable {X : xG} {n : Nat} {MI : Nat → Nat → Int32} {ML : Nat → Nat → Int64} {MR : Nat → Nat → Option Nat}
set_option maxRecDepth 100000 in
theorem c_X11_covers (hM : x_Lay MR) {f i K pc : Nat} {nd : Nat → Nat} (hf : f < 5) (hi : i < 729) (hK : K ≤ 33) (hKr : MI 124 32 = nI K) (hnd : ∀ k, k < K → nd k < 729 ∧ MI 139 k = nI (nd k)) (hpc : pc < 729) (hpr : MI 144 (729 * f + i) = nI pc) : Cf X yX11_covers cX11_covers 6 (some .long) 2 [.ref 124, .int (nI f), .int (nI i)] n SH MI ML MR (some (.long (heldL (ML 125 pc) (fun k => ML 125 (nd k)) K))) MI ML MR := by
  refine Ct_of (by decide) (Nat.le_of_ble_eq_true rfl) (fun G hG => ?_)
  have eix : (729 : Int32) * nI f + nI i = nI (729 * f + i) := by
    have h1 := pk_mul 729 f
    have h2 := nI_add (729 * f) i
    rw [← h1] at h2
    exact h2
  have loop : ∀ k, k ≤ K → RW X G RX11 cX11_covers 6 (x_rm 2 0 0) n SH MI ML MR 0 0 5 [(5, .int (nI k)), (3, .long (heldL (ML 125 pc) (fun k => ML 125 (nd k)) k)), (0, .ref 124), (1, .int (nI f)), (2, .int (nI i))] [] := by
    refine bwd (fun k hk ih => ?_)
    refine r_iload 0 rfl dX11_covers_5 ?_
    refine r_aload_n 2 rfl dX11_covers_7 ?_
    refine r_geti dX11_covers_8 fl_X11_358 rfl ?_
    refine r_icmpge (tgt := 53) dX11_covers_11 (by decide) (fun zh11 => ?_) (fun zh11 => ?_)
    · rw [hKr] at zh11
      obtain rfl : K = k := by have := geL (k := K) (by omega) (by omega) zh11; omega
      refine r_lload_n 1 rfl dX11_covers_53 ?_
      exact r_lret hG dX11_covers_54 (⟨rfl, rfl, rfl, rfl⟩)
    · rw [hKr] at zh11
      have hlt : k < K := ltL (by omega) zh11
      refine r_aload_n 2 rfl dX11_covers_14 ?_
      refine r_aload_n 2 rfl dX11_covers_15 ?_
      refine r_getr dX11_covers_16 fl_X11_65 rfl (hM _ _ _ rfl) ?_
      refine r_iload 0 rfl dX11_covers_19 ?_
      refine r_iald dX11_covers_21 rfl (vp_in_nI (show k < 41 by omega) (by decide)) ?_
      refine r_aload_n 2 rfl dX11_covers_22 ?_
      refine r_getr dX11_covers_23 fl_X11_80 rfl (hM _ _ _ rfl) ?_
      refine r_sipush (v := 729) rfl dX11_covers_26 ?_
      refine r_iload_n 3 rfl dX11_covers_29 ?_
      refine r_imul dX11_covers_30 ?_
      refine r_iload_n 4 rfl dX11_covers_31 ?_
      refine r_iadd dX11_covers_32 ?_
      refine r_iald dX11_covers_33 rfl (by rw [eix]; exact vp_in_nI (show 729 * f + i < 3645 by omega) (by decide)) ?_
      rw [eix, nI_clamp (by omega), nI_clamp (by omega), hpr, (hnd k hlt).2]
      refine r_Vf [.int _, .int _] dX11_covers_34 lk_X11_388 mb_X11_liesIn in_X11_liesIn se_X11_liesIn rfl (c_X11_liesIn hM (hnd k hlt).1 hpc) rfl rfl rfl (Nat.le_of_ble_eq_true rfl) (rfl) ?_
      refine r_ifeq (tgt := 47) dX11_covers_37 (by decide) (fun zh37 => ?_) (fun zh37 => ?_)
      · refine r_iinc (v := (nI (k + 1))) (ls2 := [(5, .int (nI (k + 1))), (3, .long (heldL (ML 125 pc) (fun k => ML 125 (nd k)) k)), (0, .ref 124), (1, .int (nI f)), (2, .int (nI i))]) 0 dX11_covers_47 rfl (x_inc k) (by decide) rfl ?_
        refine r_goto (tgt := 5) dX11_covers_50 (by decide) ?_
        have zq := ih hlt
        rw [heldL] at zq
        first
          | (have z1 : ML 125 (nd k) &&& (ML 125 pc ^^^ -1) = 0 := of_decide_eq_true (b2n.mp zh37)
             rw [if_pos z1] at zq
             subst ze46
             exact r_sub [0, 1, 2, 3, 4] rfl zq)
          | (have z1 : ¬ ML 125 (nd k) &&& (ML 125 pc ^^^ -1) = 0 := of_decide_eq_false (b2z.mp zh37)
             rw [if_neg z1] at zq
             exact r_sub [0, 1, 2, 3, 4] rfl zq)
      · refine r_lload_n 1 rfl dX11_covers_40 ?_
        refine r_lconst (v := 1) rfl dX11_covers_41 ?_
        refine r_iload 0 rfl dX11_covers_42 ?_
        refine r_lshl dX11_covers_44 ?_
        refine r_lor dX11_covers_45 ?_
        refine r_nml (fun zv46 ze46 => ?_)
        refine r_lstore_n (ls2 := [(3, .long zv46), (5, .int (nI k)), (0, .ref 124), (1, .int (nI f)), (2, .int (nI i))]) dX11_covers_46 (by decide) rfl ?_
        refine r_iinc (v := (nI (k + 1))) (ls2 := [(5, .int (nI (k + 1))), (3, .long zv46), (0, .ref 124), (1, .int (nI f)), (2, .int (nI i))]) 1 dX11_covers_47 rfl (x_inc k) (by decide) rfl ?_
        refine r_goto (tgt := 5) dX11_covers_50 (by decide) ?_
        have zq := ih hlt
        rw [heldL] at zq
        first
          | (have z1 : ML 125 (nd k) &&& (ML 125 pc ^^^ -1) = 0 := of_decide_eq_true (b2n.mp zh37)
             rw [if_pos z1] at zq
             subst ze46
             exact r_sub [0, 1, 2, 3, 4] rfl zq)
          | (have z1 : ¬ ML 125 (nd k) &&& (ML 125 pc ^^^ -1) = 0 := of_decide_eq_false (b2z.mp zh37)
             rw [if_neg z1] at zq
             exact r_sub [0, 1, 2, 3, 4] rfl zq)
  refine r_lconst (v := 0) rfl dX11_covers_0 ?_
  refine r_lstore_n (ls2 := [(3, .long 0), (0, .ref 124), (1, .int (nI f)), (2, .int (nI i))]) dX11_covers_1 (by decide) rfl ?_
  refine r_iconst (v := 0) rfl dX11_covers_2 ?_
  refine r_istore (ls2 := [(5, .int 0), (3, .long 0), (0, .ref 124), (1, .int (nI f)), (2, .int (nI i))]) dX11_covers_3 (by decide) rfl ?_
  exact r_sub [0, 1, 2, 3, 4] rfl (loop 0 (Nat.zero_le _))
/-- needs and PRIMES of a FUNCTION, as the memory has them -/
def rNP (MI : Mi) (f K np : Nat) (nd pc : Nat → Nat) : Prop := K ≤ 33 ∧ MI 124 32 = nI K ∧ (∀ k, k < K → nd k < 729 ∧ MI 139 k = nI (nd k)) ∧ np ≤ 729 ∧ MI 143 f = nI np ∧ ∀ i, i < np → pc i < 729 ∧ MI 144 (729 * f + i) = nI (pc i)
def hH (ML : Nat → Nat → Int64) (K : Nat) (nd pc : Nat → Nat) (i : Nat) : Int64 := heldL (ML 125 (pc i)) (fun k => ML 125 (nd k)) K
set_option maxRecDepth 100000 in
theorem c_X11_coveredBut (hM : x_Lay MR) {f K np : Nat} {nd pc : Nat → Nat} (hf : f < 5) (h : rNP MI f K np nd pc) {x : Int32} : Cf X yX11_coveredBut cX11_coveredBut 6 (some .long) 3 [.ref 124, .int (nI f), .int x] n SH MI ML MR (some (.long (cbO (hH ML K nd pc) x np))) MI ML MR := by
  obtain ⟨hK, hKr, hnd, hnp, hnr, hpc⟩ := h
  have cf : (nI f).toNatClampNeg = f := nI_clamp (by omega)
  refine Ct_of (by decide) (Nat.le_of_ble_eq_true rfl) (fun G hG => ?_)
  have loop : ∀ i, i ≤ np → RW X G RX11 cX11_coveredBut 6 (x_rm 3 0 0) n SH MI ML MR 0 0 5 [(5, .int (nI i)), (3, .long (cbO (hH ML K nd pc) x i)), (0, .ref 124), (1, .int (nI f)), (2, .int x)] [] := by
    refine bwd (fun i hi ih => ?_)
    refine r_iload 0 rfl dX11_coveredBut_5 ?_
    refine r_aload_n 2 rfl dX11_coveredBut_7 ?_
    refine r_getr dX11_coveredBut_8 fl_X11_77 rfl (hM _ _ _ rfl) ?_
    refine r_iload_n 3 rfl dX11_coveredBut_11 ?_
    refine r_iald dX11_coveredBut_12 rfl (vp_in_nI hf (by decide)) ?_
    refine r_icmpge (tgt := 38) dX11_coveredBut_13 (by decide) (fun zh13 => ?_) (fun zh13 => ?_)
    · rw [cf, hnr] at zh13
      obtain rfl : np = i := by have := geL (k := np) (by omega) (by omega) zh13; omega
      refine r_lload_n 1 rfl dX11_coveredBut_38 ?_
      exact r_lret hG dX11_coveredBut_39 (⟨rfl, rfl, rfl, rfl⟩)
    · rw [cf, hnr] at zh13
      have hlt : i < np := ltL (by omega) zh13
      have zq := ih hlt
      rw [cbO] at zq
      refine r_iload 0 rfl dX11_coveredBut_16 ?_
      refine r_iload_n 4 rfl dX11_coveredBut_18 ?_
      refine r_icmpeq (tgt := 32) dX11_coveredBut_19 (by decide) (fun zh19 => ?_) (fun zh19 => ?_)
      · refine r_iinc (v := (nI (i + 1))) (ls2 := [(5, .int (nI (i + 1))), (3, .long (cbO (hH ML K nd pc) x i)), (0, .ref 124), (1, .int (nI f)), (2, .int x)]) 0 dX11_coveredBut_32 rfl (x_inc i) (by decide) rfl ?_
        refine r_goto (tgt := 5) dX11_coveredBut_35 (by decide) ?_
        first
          | (rw [if_neg zh19] at zq; subst ze31; exact r_sub [0, 1, 2, 3, 4] rfl zq)
          | (rw [if_pos zh19] at zq; exact r_sub [0, 1, 2, 3, 4] rfl zq)
      · refine r_lload_n 1 rfl dX11_coveredBut_22 ?_
        refine r_aload_n 2 rfl dX11_coveredBut_23 ?_
        refine r_iload_n 3 rfl dX11_coveredBut_24 ?_
        refine r_iload 0 rfl dX11_coveredBut_25 ?_
        refine r_Vf [.int _, .int _] dX11_coveredBut_27 lk_X11_394 mb_X11_covers in_X11_covers se_X11_covers rfl (c_X11_covers hM hf (show i < 729 by omega) hK hKr hnd (hpc i hlt).1 (hpc i hlt).2) rfl rfl rfl (Nat.le_of_ble_eq_true rfl) (rfl) ?_
        refine r_lor dX11_coveredBut_30 ?_
        refine r_nml (fun zv31 ze31 => ?_)
        refine r_lstore_n (ls2 := [(3, .long zv31), (5, .int (nI i)), (0, .ref 124), (1, .int (nI f)), (2, .int x)]) dX11_coveredBut_31 (by decide) rfl ?_
        refine r_iinc (v := (nI (i + 1))) (ls2 := [(5, .int (nI (i + 1))), (3, .long zv31), (0, .ref 124), (1, .int (nI f)), (2, .int x)]) 1 dX11_coveredBut_32 rfl (x_inc i) (by decide) rfl ?_
        refine r_goto (tgt := 5) dX11_coveredBut_35 (by decide) ?_
        first
          | (rw [if_neg zh19] at zq; subst ze31; exact r_sub [0, 1, 2, 3, 4] rfl zq)
          | (rw [if_pos zh19] at zq; exact r_sub [0, 1, 2, 3, 4] rfl zq)
  refine r_lconst (v := 0) rfl dX11_coveredBut_0 ?_
  refine r_lstore_n (ls2 := [(3, .long 0), (0, .ref 124), (1, .int (nI f)), (2, .int x)]) dX11_coveredBut_1 (by decide) rfl ?_
  refine r_iconst (v := 0) rfl dX11_coveredBut_2 ?_
  refine r_istore (ls2 := [(5, .int 0), (3, .long 0), (0, .ref 124), (1, .int (nI f)), (2, .int x)]) dX11_coveredBut_3 (by decide) rfl ?_
  exact r_sub [0, 1, 2, 3, 4] rfl (loop 0 (Nat.zero_le _))
theorem ndN_le (H : Nat → Int64) (np : Nat) : ∀ k, ndN H np k ≤ k
  | 0 => Nat.le_refl _
  | k + 1 => by
    have := ndN_le H np k
    rw [ndN]
    split <;> omega
/-- what the reference's caches leave as it was -/
def rF (MI W : Mi) : Prop := (∀ b, b ≠ 124 → b < 139 ∨ 149 < b → W b = MI b) ∧ ∀ j, j ≠ 32 → j ≠ 43 → W 124 j = MI 124 j
theorem rF_rf (MI : Mi) : rF MI MI := ⟨fun _ _ _ => rfl, fun _ _ _ => rfl⟩
theorem rF_tr {MI W W2 : Mi} (h1 : rF MI W) (h2 : rF W W2) : rF MI W2 := ⟨fun b a c => (h2.1 b a c).trans (h1.1 b a c), fun j a c => (h2.2 j a c).trans (h1.2 j a c)⟩
theorem rpF_F {MI W : Mi} {f : Nat} (h : rpF MI W f) : rF MI W := ⟨fun b h1 h2 => h.1 b (by omega) (by omega) (by omega) (by omega), fun j _ _ => by rw [h.1 124 (by decide) (by decide) (by decide) (by decide)]⟩
theorem ndM_F {MI : Mi} {r : Nat → Int32} {L : List Int32} : rF MI (ndM MI r L) := ⟨fun b h1 h2 => ndM_b h1 (by omega), fun j h1 _ => by unfold ndM; rw [u2_ne _ _ (by omega), sr_ne _ _ (by decide)]⟩
/-- REQUIRED CUBES and PRIMES of a FUNCTION were found -/
def rNQ (MI : Mi) (ML : Nat → Nat → Int64) (A b f : Nat) (pl : Nat → List Nat) (W : Mi) : Prop := rNP W f (rqL MI (nI f) A b).length (pl f).length (ndx (rqL MI (nI f) A b)) (fun i => (pl f).getD i 0)
theorem rI_nd {pl : Nat → List Nat} {MI : Mi} {r : Nat → Int32} {L : List Int32} (h : rI pl MI) : rI pl (ndM MI r L) := h
/-- needsOf and primesOf, one behind the other -/
theorem np_both {A S b f : Nat} (hA : A ≤ 8) (hf : f < 5) {pl : Nat → List Nat} (hpl : pl f = prQ (fun c => sfP MI ML f c A) (ML 125) 729) {W : Mi} (h : rpF (ndM MI (MI 139) (rqL MI (nI f) A b)) W f) (hI : rI pl W) (h1 : W 140 f = 1) : rNQ MI ML A b f pl W := by
  have hlen := rqL_len MI (nI f) b hA
  have hp := (hI f hf).elim (fun z => absurd h1 (by rw [z]; decide)) (fun z => z)
  refine ⟨hlen, by rw [h.1 124 (by decide) (by decide) (by decide) (by decide), ndM_c], fun k hk => ?_, by rw [hpl]; exact prQ_len _ _ _, hp.2.1, fun i hi => ⟨by rw [hpl] at hi ⊢; exact prQ_lt hi, hp.2.2 i hi⟩⟩
  have := ndx_in (rqL_in MI (nI f) A b) hk
  refine ⟨this.1, ?_⟩
  rw [h.1 139 (by decide) (by decide) (by decide) (by decide), ndM_r, layL_lt hk, this.2]
set_option maxRecDepth 100000 in
theorem c_X11_lackingNow (hM : x_Lay MR) {A S b f : Nat} (hA : A ≤ 8) (hS : S ≤ 6) (hAr : MI 128 6 = nI A) (hP : okA (arR MI) A S) (hb : b < 6) (hbr : MI 130 1 = nI b) (hf : f < 5) {pl : Nat → List Nat} (hI : rI pl MI) (hpl : pl f = prQ (fun c => sfP MI ML f c A) (ML 125) 729) (hpb : ∀ g, g < 5 → (pl g).length ≤ 729) {K : Nat} {H : Nat → Int64} (hKe : K = (rqL MI (nI f) A b).length) (hHe : H = hH ML K (ndx (rqL MI (nI f) A b)) (fun i => (pl f).getD i 0)) :
    Ct X yX11_lackingNow cX11_lackingNow 5 (some .int) 7 0 0 [.ref 124, .int (nI f)] n SH MI ML MR n SH (fun r0 W B C => r0 = some (.int (opt2 (lcO (cbO H (-1) (pl f).length) K))) ∧ B = ML ∧ C = MR ∧ rF MI W ∧ rI pl W ∧ W 140 f = 1 ∧ rNQ MI ML A b f pl W ∧ (∀ g, W 141 g = MI 141 g) ∧ W 145 = MI 145 ∧ W 146 = MI 146 ∧ ∀ g, g < 5 → MI 140 g = 1 → W 140 g = 1) := by
  refine Ct_of (by decide) (Nat.le_of_ble_eq_true rfl) (fun G hG => ?_)
  have hPn : okA (arR (ndM MI (MI 139) (rqL MI (nI f) A b))) A S := hP
  have hAn : ndM MI (MI 139) (rqL MI (nI f) A b) 128 6 = nI A := by rw [ndM_b (by decide) (by decide), hAr]
  have hpln : pl f = prQ (fun c => sfP (ndM MI (MI 139) (rqL MI (nI f) A b)) ML f c A) (ML 125) 729 := hpl
  have hlen := rqL_len MI (nI f) b hA
  rw [← hKe] at hlen
  have loop : ∀ W, rpF (ndM MI (MI 139) (rqL MI (nI f) A b)) W f → rI pl W → W 140 f = 1 → ∀ k, k ≤ K → (∀ j, j < k → hasL (cbO H (-1) (pl f).length) (nI j) = true) → RW X G RX11 cX11_lackingNow 5 (x_rm 7 0 0) n SH W ML MR 0 0 20 [(4, .int (nI k)), (2, .long (cbO H (-1) (pl f).length)), (0, .ref 124), (1, .int (nI f))] [] := by
    intro W hF hIW hW1
    have hnq := np_both (S := S) hA hf hpl hF hIW hW1
    have hKW : W 124 32 = nI K := by rw [hKe]; exact hnq.2.1
    have hend : rF MI W ∧ rI pl W ∧ W 140 f = 1 ∧ rNQ MI ML A b f pl W ∧ (∀ g, W 141 g = MI 141 g) ∧ W 145 = MI 145 ∧ W 146 = MI 146 ∧ ∀ g, g < 5 → MI 140 g = 1 → W 140 g = 1 := by
      have eb : ∀ c, c ≠ 124 → c ≠ 139 → c ≠ 140 → c ≠ 142 → c ≠ 143 → c ≠ 144 → W c = MI c := fun c h1 h2 h3 h4 h5 h6 => by rw [hF.1 c h3 h4 h5 h6, ndM_b h1 h2]
      refine ⟨rF_tr ndM_F (rpF_F hF), hIW, hW1, hnq, fun g => by rw [eb 141 (by decide) (by decide) (by decide) (by decide) (by decide) (by decide)], eb 145 (by decide) (by decide) (by decide) (by decide) (by decide) (by decide), eb 146 (by decide) (by decide) (by decide) (by decide) (by decide) (by decide), fun g hg h1 => ?_⟩
      by_cases e : g = f
      · rw [e]; exact hW1
      · rw [(hF.2 g hg e).1]; exact h1
    refine bwd (fun k hk ih hj => ?_)
    have hnone : k = K → lcO (cbO H (-1) (pl f).length) K = none := fun e => by
      unfold lcO
      rw [List.find?_eq_none]
      intro j hj2
      rw [hj j (by rw [e]; exact List.mem_range.mp hj2)]
      decide
    have hsome : k < K → hasL (cbO H (-1) (pl f).length) (nI k) = false → lcO (cbO H (-1) (pl f).length) K = some k := fun hlt hb => by
      unfold lcO
      rw [List.find?_range_eq_some]
      exact ⟨by rw [hb]; rfl, List.mem_range.mpr hlt, fun j hj2 => by rw [hj j hj2]; rfl⟩
    refine r_iload 0 rfl dX11_lackingNow_20 ?_
    refine r_aload_n 2 rfl dX11_lackingNow_22 ?_
    refine r_geti dX11_lackingNow_23 fl_X11_358 rfl ?_
    refine r_icmpge (tgt := 47) dX11_lackingNow_26 (by decide) (fun zh26 => ?_) (fun zh26 => ?_)
    · rw [hKW] at zh26
      have hke : k = K := by have := geL (k := K) (by omega) (by omega) zh26; omega
      refine r_bipush (v := (-2)) rfl dX11_lackingNow_47 ?_
      exact r_iret hG dX11_lackingNow_49 (⟨by rw [hnone hke]; rfl, rfl, rfl, hend⟩)
    · rw [hKW] at zh26
      have hlt : k < K := ltL (by omega) zh26
      refine r_lload_n 1 rfl dX11_lackingNow_29 ?_
      refine r_iload 0 rfl dX11_lackingNow_30 ?_
      refine r_Sf [.long _, .int _] dX11_lackingNow_32 lk_X11_347 mb_X11_has sc_X11_has rfl (c_X11_has) rfl (Nat.le_of_ble_eq_true rfl) (rfl) ?_
      refine r_ifne (tgt := 41) dX11_lackingNow_35 (by decide) (fun zh35 => ?_) (fun zh35 => ?_)
      · refine r_iinc (v := (nI (k + 1))) (ls2 := [(4, .int (nI (k + 1))), (2, .long (cbO H (-1) (pl f).length)), (0, .ref 124), (1, .int (nI f))]) 0 dX11_lackingNow_41 rfl (x_inc k) (by decide) rfl ?_
        refine r_goto (tgt := 20) dX11_lackingNow_44 (by decide) ?_
        refine ih hlt (fun j hj2 => ?_)
        rcases Nat.lt_or_ge j k with z | z
        · exact hj j z
        · obtain rfl : j = k := by omega
          exact b2n.mp zh35
      · refine r_iload 0 rfl dX11_lackingNow_38 ?_
        exact r_iret hG dX11_lackingNow_40 (⟨by rw [hsome hlt (b2z.mp zh35)]; rfl, rfl, rfl, hend⟩)
  refine r_aload_n 0 rfl dX11_lackingNow_0 ?_
  refine r_iload_n 1 rfl dX11_lackingNow_1 ?_
  refine r_Vn [.int _] dX11_lackingNow_2 lk_X11_373 mb_X11_needsOf in_X11_needsOf se_X11_needsOf rfl (c_X11_needsOf hM hA hS hAr hP hb hbr) rfl rfl rfl (Nat.le_of_ble_eq_true rfl) (rfl) ?_
  refine r_aload_n 0 rfl dX11_lackingNow_5 ?_
  refine r_iload_n 1 rfl dX11_lackingNow_6 ?_
  refine r_Vg [.int _] dX11_lackingNow_7 lk_X11_391 mb_X11_primesOf in_X11_primesOf se_X11_primesOf rfl (c_X11_primesOf hM hA hS hAn hPn hf (rI_nd hI) hpln hpb) rfl rfl rfl (Nat.le_of_ble_eq_true rfl) (rfl) (fun r zW zB zC hz => ?_)
  obtain ⟨rfl, rfl, rfl, zF, zI, z1⟩ := hz
  show RW X G _ _ _ _ _ _ _ _ _ _ _ _ _ []
  refine r_aload_n 0 rfl dX11_lackingNow_10 ?_
  refine r_iload_n 1 rfl dX11_lackingNow_11 ?_
  refine r_iconst (v := (-1)) rfl dX11_lackingNow_12 ?_
  refine r_Vf [.int _, .int _] dX11_lackingNow_13 lk_X11_398 mb_X11_coveredBut in_X11_coveredBut se_X11_coveredBut rfl (c_X11_coveredBut hM hf (np_both (S := S) hA hf hpl zF zI z1)) rfl rfl rfl (Nat.le_of_ble_eq_true rfl) (rfl) ?_
  rw [← hKe, ← hHe]
  refine r_lstore_n (ls2 := [(2, .long (cbO H (-1) (pl f).length)), (0, .ref 124), (1, .int (nI f))]) dX11_lackingNow_16 (by decide) rfl ?_
  refine r_iconst (v := 0) rfl dX11_lackingNow_17 ?_
  refine r_istore (ls2 := [(4, .int 0), (2, .long (cbO H (-1) (pl f).length)), (0, .ref 124), (1, .int (nI f))]) dX11_lackingNow_18 (by decide) rfl ?_
  exact r_sub [0, 1, 2, 3] rfl (loop zW zF zI z1 0 (Nat.zero_le _) (fun j hj => absurd hj (Nat.not_lt_zero j)))
end rcover

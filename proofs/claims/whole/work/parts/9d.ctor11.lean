/-! the reference (head: gen/ctor11.head.txt, loops: gen/ctor11.loops.txt, rows: gen/ctors.py) -/
theorem pb6 : ∀ p, p < 64 → ∀ k, k < 6 → (nI p >>> (nI k &&& 31)) &&& 1 = nI (p / 2 ^ k % 2) := by decide +kernel
theorem cin_if6 {c p : Nat} : cin c p = true ↔ ∀ k, k < 6 → dgt c k = 2 ∨ dgt c k = p / 2 ^ k % 2 := by
  unfold cin
  rw [List.all_eq_true]
  constructor
  · intro h k hk
    have := h k (List.mem_range.mpr hk)
    simpa using this
  · intro h k hk
    have := h k (List.mem_range.mp hk)
    simpa using this
theorem ix6 (c k : Nat) : (6 : Int32) * nI c + nI k = nI (6 * c + k) := by
  have h1 := pk_mul 6 c
  have h2 := nI_add (6 * c) k
  rw [← h1] at h2
  exact h2
theorem d3_lt (c k : Nat) : dgt c k < 3 := Nat.mod_lt _ (by decide)
set_option maxRecDepth 100000 in
theorem ci_isIn {X : xG} {n : Nat} {MI : Nat → Nat → Int32} {ML : Nat → Nat → Int64} {MR : Nat → Nat → Option Nat} (hM : MR 124 4 = some 126) {c p : Nat} (hc : c < 729) (hp : p < 64) (hmu : ∀ k, k < 6 → MI 126 (6 * c + k) = nI (dgt c k)) : Cf X yX11_isIn cX11_isIn 5 (some .boolean) 1 [.ref 124, .int (nI c), .int (nI p)] n (SH.take 154) MI ML MR (some (.int (if cin c p = true then 1 else 0))) MI ML MR := by
  refine Ct_of (by decide) (Nat.le_of_ble_eq_true rfl) (fun G hG => ?_)
  have loop : ∀ k, k ≤ 6 → (∀ j, j < k → dgt c j = 2 ∨ dgt c j = p / 2 ^ j % 2) → RW X G RX11 cX11_isIn 5 (x_rm 1 0 0) n (SH.take 154) MI ML MR 0 0 2 [(3, .int (nI k)), (0, .ref 124), (1, .int (nI c)), (2, .int (nI p))] [] := by
    refine bwd (fun k hk ih hb => ?_)
    have hd := d3_lt c k
    have eix := ix6 c k
    refine r_iload_n 0 rfl dX11_isIn_2 ?_
    refine r_bipush (v := 6) rfl dX11_isIn_3 ?_
    refine r_icmpge (tgt := 45) dX11_isIn_5 (by decide) (fun zh5 => ?_) (fun zh5 => ?_)
    · obtain rfl : k = 6 := by have := geL (k := 6) (by decide) (by omega) zh5; omega
      refine r_iconst (v := 1) rfl dX11_isIn_45 ?_
      exact r_zret hG dX11_isIn_46 (rfl) (⟨by rw [if_pos (cin_if6.mpr hb)], rfl, rfl, rfl⟩)
    · have hlt : k < 6 := ltL (by omega) zh5
      refine r_aload_n 1 rfl dX11_isIn_8 ?_
      refine r_getr dX11_isIn_9 fl_X11_23 rfl hM ?_
      refine r_bipush (v := 6) rfl dX11_isIn_12 ?_
      refine r_iload_n 2 rfl dX11_isIn_14 ?_
      refine r_imul dX11_isIn_15 ?_
      refine r_iload_n 0 rfl dX11_isIn_16 ?_
      refine r_iadd dX11_isIn_17 ?_
      refine r_iald dX11_isIn_18 rfl (by rw [eix]; exact vp_in_nI (show 6 * c + k < 4374 by omega) (by decide)) ?_
      rw [eix, nI_clamp (by omega), hmu k hlt]
      refine r_istore (ls2 := [(4, .int (nI (dgt c k))), (3, .int (nI k)), (0, .ref 124), (1, .int (nI c)), (2, .int (nI p))]) dX11_isIn_19 (by decide) rfl ?_
      refine r_iload 0 rfl dX11_isIn_21 ?_
      refine r_iconst (v := 2) rfl dX11_isIn_23 ?_
      refine r_icmpge (tgt := 39) dX11_isIn_24 (by decide) (fun zh24 => ?_) (fun zh24 => ?_)
      · refine r_iinc (v := (nI (k + 1))) (ls2 := [(3, .int (nI (k + 1))), (4, .int (nI (dgt c k))), (0, .ref 124), (1, .int (nI c)), (2, .int (nI p))]) 1 dX11_isIn_39 rfl (x_inc k) (by decide) rfl ?_
        refine r_goto (tgt := 2) dX11_isIn_42 (by decide) ?_
        refine r_sub [0, 2, 3, 4] rfl (ih hlt (fun j hj => ?_))
        by_cases e : j = k
        · subst e
          first
            | (have zq := pb6 p hp j hlt
               rw [zq] at zh34
               exact Or.inr ((nI_eq (by omega) (by omega)).mp zh34))
            | (have zq := geL (k := 2) (by decide) (by omega) zh24
               exact Or.inl (by omega))
        · exact hb j (by omega)
      · refine r_iload 0 rfl dX11_isIn_27 ?_
        refine r_iload_n 4 rfl dX11_isIn_29 ?_
        refine r_iload_n 1 rfl dX11_isIn_30 ?_
        refine r_ishr dX11_isIn_31 ?_
        refine r_iconst (v := 1) rfl dX11_isIn_32 ?_
        refine r_iand dX11_isIn_33 ?_
        refine r_icmpeq (tgt := 39) dX11_isIn_34 (by decide) (fun zh34 => ?_) (fun zh34 => ?_)
        · refine r_iinc (v := (nI (k + 1))) (ls2 := [(3, .int (nI (k + 1))), (4, .int (nI (dgt c k))), (0, .ref 124), (1, .int (nI c)), (2, .int (nI p))]) 1 dX11_isIn_39 rfl (x_inc k) (by decide) rfl ?_
          refine r_goto (tgt := 2) dX11_isIn_42 (by decide) ?_
          refine r_sub [0, 2, 3, 4] rfl (ih hlt (fun j hj => ?_))
          by_cases e : j = k
          · subst e
            first
              | (have zq := pb6 p hp j hlt
                 rw [zq] at zh34
                 exact Or.inr ((nI_eq (by omega) (by omega)).mp zh34))
              | (have zq := geL (k := 2) (by decide) (by omega) zh24
                 exact Or.inl (by omega))
          · exact hb j (by omega)
        · refine r_iconst (v := 0) rfl dX11_isIn_37 ?_
          exact r_zret hG dX11_isIn_38 (rfl) (⟨by
              have hn : ¬ cin c p = true := fun z => by
                rcases cin_if6.mp z k hlt with q | q
                · exact zh24 (by rw [q]; decide)
                · exact zh34 (by rw [pb6 p hp k hlt, q])
              rw [if_neg hn], rfl, rfl, rfl⟩)
  refine r_iconst (v := 0) rfl dX11_isIn_0 ?_
  refine r_istore_n (ls2 := [(3, .int 0), (0, .ref 124), (1, .int (nI c)), (2, .int (nI p))]) dX11_isIn_1 (by decide) rfl ?_
  exact loop 0 (by decide) (fun j hj => absurd hj (Nat.not_lt_zero j))
def muM (i : Nat) (M : Nat → Nat → Int32) : Nat → Nat → Int32 := fun b j => if b = 126 ∧ j < 6 * i then nI (dgt (j / 6) (j % 6)) else M b j
def muD (i d : Nat) (M : Nat → Nat → Int32) : Nat → Nat → Int32 := fun b j => if b = 126 ∧ (j < 6 * i ∨ (6 * i + d ≤ j ∧ j < 6 * i + 6)) then nI (dgt (j / 6) (j % 6)) else M b j
def cbP (c : Nat) : Nat → Int64
  | 0 => 0
  | p + 1 => if cin c p = true then cbP c p ||| ((1 : Int64) <<< ((nI p).toInt64 &&& 63)) else cbP c p
def cbM (i : Nat) (M : Nat → Nat → Int64) : Nat → Nat → Int64 := fun b j => if b = 125 ∧ j < i then cbP j 64 else M b j
def cbW (i p : Nat) (M : Nat → Nat → Int64) : Nat → Nat → Int64 := fun b j => if b = 125 ∧ j < i then cbP j 64 else if b = 125 ∧ j = i then cbP i p else M b j
theorem muD_6 (i : Nat) (M : Nat → Nat → Int32) : muD i 6 M = muM i M := by
  funext b j
  unfold muD muM
  by_cases h : b = 126 ∧ j < 6 * i
  · rw [if_pos h, if_pos ⟨h.1, Or.inl h.2⟩]
  · rw [if_neg h, if_neg (by omega)]
theorem muD_0 (i : Nat) (M : Nat → Nat → Int32) : muD i 0 M = muM (i + 1) M := by
  funext b j
  unfold muD muM
  by_cases h : b = 126 ∧ j < 6 * (i + 1)
  · rw [if_pos h, if_pos (by omega)]
  · rw [if_neg h, if_neg (by omega)]
theorem muD_s {i d : Nat} (hd : d < 6) (M : Nat → Nat → Int32) : u2 (muD i (d + 1) M) 126 (6 * i + d) (nI (dgt i d)) = muD i d M := by
  funext b j
  unfold u2 muD
  by_cases h : b = 126 ∧ j = 6 * i + d
  · rw [if_pos h, if_pos (by omega), show j / 6 = i by omega, show j % 6 = d by omega]
  · rw [if_neg h]
    by_cases h2 : b = 126 ∧ (j < 6 * i ∨ (6 * i + (d + 1) ≤ j ∧ j < 6 * i + 6))
    · rw [if_pos h2, if_pos (by omega)]
    · rw [if_neg h2, if_neg (by omega)]
theorem cbW_0 {i : Nat} {M : Nat → Nat → Int64} (h : M 125 i = 0) : cbM i M = cbW i 0 M := by
  funext b j
  unfold cbM cbW
  by_cases h1 : b = 125 ∧ j < i
  · rw [if_pos h1, if_pos h1]
  · rw [if_neg h1, if_neg h1]
    by_cases h2 : b = 125 ∧ j = i
    · rw [if_pos h2, h2.1, h2.2, h]
      rfl
    · rw [if_neg h2]
theorem cbW_64 (i : Nat) (M : Nat → Nat → Int64) : cbW i 64 M = cbM (i + 1) M := by
  funext b j
  unfold cbM cbW
  by_cases h1 : b = 125 ∧ j < i
  · rw [if_pos h1, if_pos (by omega)]
  · rw [if_neg h1]
    by_cases h2 : b = 125 ∧ j = i
    · rw [if_pos h2, if_pos (by omega), h2.2]
    · rw [if_neg h2, if_neg (by omega)]
theorem cbW_at (i p : Nat) (M : Nat → Nat → Int64) : cbW i p M 125 i = cbP i p := by
  unfold cbW
  rw [if_neg (by omega), if_pos ⟨rfl, rfl⟩]
theorem cbW_s (i p : Nat) (x : Int64) (M : Nat → Nat → Int64) (h : x = cbP i (p + 1)) : u2 (cbW i p M) 125 i x = cbW i (p + 1) M := by
  subst h
  funext b j
  unfold u2 cbW
  by_cases h2 : b = 125 ∧ j = i
  · rw [if_pos h2, if_neg (by omega), if_pos h2]
  · rw [if_neg h2, if_neg h2, if_neg h2]
theorem cbW_n {i p : Nat} (h : ¬ cin i p = true) (M : Nat → Nat → Int64) : cbW i p M = cbW i (p + 1) M := by
  funext b j
  unfold cbW
  rw [show cbP i (p + 1) = cbP i p from if_neg h]
theorem muM_at {i k : Nat} {M : Nat → Nat → Int32} (hk : k < 6) : muM (i + 1) M 126 (6 * i + k) = nI (dgt i k) := by
  unfold muM
  rw [if_pos (by omega), show (6 * i + k) / 6 = i by omega, show (6 * i + k) % 6 = k by omega]
theorem dq_dgt {i d : Nat} (hd : d < 6) : i / 3 ^ (6 - (d + 1)) % 3 = dgt i d := by
  unfold dgt
  rw [show 6 - (d + 1) = 5 - d by omega]
theorem dq_div {i d : Nat} (hd : d < 6) : i / 3 ^ (6 - (d + 1)) / 3 = i / 3 ^ (6 - d) := by
  rw [Nat.div_div_eq_div_mul, ← Nat.pow_succ, show (6 - (d + 1)).succ = 6 - d by omega]
set_option maxRecDepth 100000 in
theorem ci_X11_124 {X : xG} {MI : Nat → Nat → Int32} {ML : Nat → Nat → Int64} {MR : Nat → Nat → Option Nat} (hOV : x_OV X) (hZ : Zr 125 MI ML MR) : Ct X yX11_init cX11_init 4 none 2 29 12260 [.ref 124] 126 (SH.take 125) MI ML MR 155 (SH.take 154) (fun r MI' ML' MR' => r = none ∧ MI' = muM 729 (u2 MI 124 2 (-1)) ∧ ML' = cbM 729 ML ∧ MR' = (u2 (u2 (u2 (u2 (u2 (u2 (u2 (u2 (u2 (u2 (u2 (u2 (u2 (u2 (u2 (u2 (u2 (u2 (u2 (u2 (u2 (u2 (u2 (u2 (u2 (u2 (u2 (u2 (u2 MR 124 3 (some 125)) 124 4 (some 126)) 124 5 (some 127)) 124 14 (some 128)) 124 15 (some 129)) 124 16 (some 130)) 124 17 (some 131)) 124 18 (some 132)) 124 23 (some 133)) 124 24 (some 134)) 124 25 (some 135)) 124 26 (some 136)) 124 29 (some 137)) 124 30 (some 138)) 124 31 (some 139)) 124 33 (some 140)) 124 34 (some 141)) 124 35 (some 142)) 124 36 (some 143)) 124 37 (some 144)) 124 38 (some 145)) 124 39 (some 146)) 124 40 (some 147)) 124 41 (some 148)) 124 42 (some 149)) 124 48 (some 150)) 124 49 (some 151)) 124 50 (some 152)) 124 51 (some 153))) := by
  refine Ct_of (by decide) (Nat.le_of_ble_eq_true rfl) (fun G hG => ?_)
  have hmn : G.2.2.2.2.2.2.2.2.2.1 = "<init>" := x_GI_mn hG
  have loop : ∀ i, i ≤ 729 → RW X G RX11 cX11_init 4 (x_rm 2 29 12260) 155 (SH.take 154) (muM i (u2 MI 124 2 (-1))) (cbM i ML) (u2 (u2 (u2 (u2 (u2 (u2 (u2 (u2 (u2 (u2 (u2 (u2 (u2 (u2 (u2 (u2 (u2 (u2 (u2 (u2 (u2 (u2 (u2 (u2 (u2 (u2 (u2 (u2 (u2 MR 124 3 (some 125)) 124 4 (some 126)) 124 5 (some 127)) 124 14 (some 128)) 124 15 (some 129)) 124 16 (some 130)) 124 17 (some 131)) 124 18 (some 132)) 124 23 (some 133)) 124 24 (some 134)) 124 25 (some 135)) 124 26 (some 136)) 124 29 (some 137)) 124 30 (some 138)) 124 31 (some 139)) 124 33 (some 140)) 124 34 (some 141)) 124 35 (some 142)) 124 36 (some 143)) 124 37 (some 144)) 124 38 (some 145)) 124 39 (some 146)) 124 40 (some 147)) 124 41 (some 148)) 124 42 (some 149)) 124 48 (some 150)) 124 49 (some 151)) 124 50 (some 152)) 124 51 (some 153)) 29 12260 239 [(1, .int (nI i)), (0, .ref 124)] [] := by
    refine bwd (fun i hi ih => ?_)
    have in2 : i < 729 → ∀ p, p ≤ 64 → RW X G RX11 cX11_init 4 (x_rm 2 29 12260) 155 (SH.take 154) (muM (i + 1) (u2 MI 124 2 (-1))) (cbW i p ML) (u2 (u2 (u2 (u2 (u2 (u2 (u2 (u2 (u2 (u2 (u2 (u2 (u2 (u2 (u2 (u2 (u2 (u2 (u2 (u2 (u2 (u2 (u2 (u2 (u2 (u2 (u2 (u2 (u2 MR 124 3 (some 125)) 124 4 (some 126)) 124 5 (some 127)) 124 14 (some 128)) 124 15 (some 129)) 124 16 (some 130)) 124 17 (some 131)) 124 18 (some 132)) 124 23 (some 133)) 124 24 (some 134)) 124 25 (some 135)) 124 26 (some 136)) 124 29 (some 137)) 124 30 (some 138)) 124 31 (some 139)) 124 33 (some 140)) 124 34 (some 141)) 124 35 (some 142)) 124 36 (some 143)) 124 37 (some 144)) 124 38 (some 145)) 124 39 (some 146)) 124 40 (some 147)) 124 41 (some 148)) 124 42 (some 149)) 124 48 (some 150)) 124 49 (some 151)) 124 50 (some 152)) 124 51 (some 153)) 29 12260 280 [(3, .int (nI p)), (1, .int (nI i)), (0, .ref 124)] [] := by
      intro hlt
      refine bwd (fun p hp ihp => ?_)
      refine r_iload_n 0 rfl dX11_init_280 ?_
      refine r_bipush (v := 64) rfl dX11_init_281 ?_
      refine r_icmpge (tgt := 313) dX11_init_283 (by decide) (fun zh283 => ?_) (fun zh283 => ?_)
      · have hp64 : p = 64 := by have := geL (k := 64) (by decide) (by omega) zh283; omega
        refine r_iinc (v := (nI (i + 1))) (ls2 := [(1, .int (nI (i + 1))), (3, .int (nI p)), (0, .ref 124)]) 1 dX11_init_313 rfl (x_inc i) (by decide) rfl ?_
        refine r_goto (tgt := 239) dX11_init_316 (by decide) ?_
        refine r_sub [0, 2] rfl ?_
        subst hp64
        exact r_mem rfl (cbW_64 i ML) rfl (ih hlt)
      · have hpt : p < 64 := ltL (by omega) zh283
        refine r_aload_n 2 rfl dX11_init_286 ?_
        refine r_iload_n 1 rfl dX11_init_287 ?_
        refine r_iload_n 0 rfl dX11_init_288 ?_
        refine r_Vf [.int _, .int _] dX11_init_289 lk_X11_110 mb_X11_isIn in_X11_isIn se_X11_isIn rfl (ci_isIn (by simp [u2]) hlt (show p < 64 by omega) (fun k hk => muM_at hk)) rfl rfl rfl (Nat.le_of_ble_eq_true rfl) (rfl) ?_
        refine r_ifeq (tgt := 307) dX11_init_292 (by decide) (fun zh292 => ?_) (fun zh292 => ?_)
        · skip
          refine r_iinc (v := (nI (p + 1))) (ls2 := [(3, .int (nI (p + 1))), (1, .int (nI i)), (0, .ref 124)]) 0 dX11_init_307 rfl (x_inc p) (by decide) rfl ?_
          refine r_goto (tgt := 280) dX11_init_310 (by decide) ?_
          refine r_sub [0, 1, 2] rfl ?_
          refine r_mem rfl ?_ rfl (ihp hpt)
          first
            | (have hn : ¬ cin i p = true := fun z => by
                 rw [if_pos z] at zh292
                 exact absurd zh292 (by decide)
               exact cbW_n hn ML)
            | (have hy : cin i p = true := by
                 by_cases z : cin i p = true
                 · exact z
                 · rw [if_neg z] at zh292
                   exact absurd rfl zh292
               rw [nI_clamp (by omega)]
               refine cbW_s i p _ ML ?_
               rw [cbW_at]
               exact (if_pos hy).symm)
        · refine r_aload_n 2 rfl dX11_init_295 ?_
          refine r_getr dX11_init_296 fl_X11_19 rfl (show _ = some 125 by simp [u2]) ?_
          refine r_iload_n 1 rfl dX11_init_299 ?_
          refine r_dup2 rfl rfl dX11_init_300 ?_
          refine r_lald dX11_init_301 rfl (vp_in_nI hlt (by decide)) ?_
          refine r_lconst (v := 1) rfl dX11_init_302 ?_
          refine r_iload_n 0 rfl dX11_init_303 ?_
          refine r_lshl dX11_init_304 ?_
          refine r_lor dX11_init_305 ?_
          refine r_last dX11_init_306 rfl (vp_in_nI hlt (by decide)) ?_
          skip
          refine r_iinc (v := (nI (p + 1))) (ls2 := [(3, .int (nI (p + 1))), (1, .int (nI i)), (0, .ref 124)]) 0 dX11_init_307 rfl (x_inc p) (by decide) rfl ?_
          refine r_goto (tgt := 280) dX11_init_310 (by decide) ?_
          refine r_sub [0, 1, 2] rfl ?_
          refine r_mem rfl ?_ rfl (ihp hpt)
          first
            | (have hn : ¬ cin i p = true := fun z => by
                 rw [if_pos z] at zh292
                 exact absurd zh292 (by decide)
               exact cbW_n hn ML)
            | (have hy : cin i p = true := by
                 by_cases z : cin i p = true
                 · exact z
                 · rw [if_neg z] at zh292
                   exact absurd rfl zh292
               rw [nI_clamp (by omega)]
               refine cbW_s i p _ ML ?_
               rw [cbW_at]
               exact (if_pos hy).symm)
    have in1 : i < 729 → ∀ d, d ≤ 6 → RW X G RX11 cX11_init 4 (x_rm 2 29 12260) 155 (SH.take 154) (muD i d (u2 MI 124 2 (-1))) (cbM i ML) (u2 (u2 (u2 (u2 (u2 (u2 (u2 (u2 (u2 (u2 (u2 (u2 (u2 (u2 (u2 (u2 (u2 (u2 (u2 (u2 (u2 (u2 (u2 (u2 (u2 (u2 (u2 (u2 (u2 MR 124 3 (some 125)) 124 4 (some 126)) 124 5 (some 127)) 124 14 (some 128)) 124 15 (some 129)) 124 16 (some 130)) 124 17 (some 131)) 124 18 (some 132)) 124 23 (some 133)) 124 24 (some 134)) 124 25 (some 135)) 124 26 (some 136)) 124 29 (some 137)) 124 30 (some 138)) 124 31 (some 139)) 124 33 (some 140)) 124 34 (some 141)) 124 35 (some 142)) 124 36 (some 143)) 124 37 (some 144)) 124 38 (some 145)) 124 39 (some 146)) 124 40 (some 147)) 124 41 (some 148)) 124 42 (some 149)) 124 48 (some 150)) 124 49 (some 151)) 124 50 (some 152)) 124 51 (some 153)) 29 12260 250 [(3, .int (dm d)), (2, .int (nI (i / 3 ^ (6 - d)))), (1, .int (nI i)), (0, .ref 124)] [] := by
      intro hlt d
      induction d with
      | zero =>
        intro _
        refine r_iload_n 0 rfl dX11_init_250 ?_
        refine r_iflt (tgt := 278) dX11_init_251 (by decide) (fun zh251 => ?_) (fun zh251 => ?_)
        rotate_left
        · exact absurd zh251 (fun z => z (by decide))
        refine r_iconst (v := 0) rfl dX11_init_278 ?_
        refine r_istore_n (ls2 := [(3, .int 0), (2, .int (nI (i / 3 ^ (6 - 0)))), (1, .int (nI i)), (0, .ref 124)]) dX11_init_279 (by decide) rfl ?_
        refine r_sub [0, 2, 3] rfl ?_
        exact r_mem (muD_0 i _) (cbW_0 (hZ 125 (by decide) i).2.1) rfl (in2 hlt 0 (by decide))
      | succ d ihd =>
        intro hd
        rw [dm_s d]
        have hq : i / 3 ^ (6 - (d + 1)) < 729 := Nat.lt_of_le_of_lt (Nat.div_le_self _ _) hlt
        have eix := ix6 i d
        refine r_iload_n 0 rfl dX11_init_250 ?_
        refine r_iflt (tgt := 278) dX11_init_251 (by decide) (fun zh251 => ?_) (fun zh251 => ?_)
        · exact absurd zh251 (d6_nn d (by omega))
        refine r_aload_n 3 rfl dX11_init_254 ?_
        refine r_getr dX11_init_255 fl_X11_23 rfl (show _ = some 126 by simp [u2]) ?_
        refine r_bipush (v := 6) rfl dX11_init_258 ?_
        refine r_iload_n 2 rfl dX11_init_260 ?_
        refine r_imul dX11_init_261 ?_
        refine r_iload_n 0 rfl dX11_init_262 ?_
        refine r_iadd dX11_init_263 ?_
        refine r_iload_n 1 rfl dX11_init_264 ?_
        refine r_iconst (v := 3) rfl dX11_init_265 ?_
        refine r_irem (by decide) dX11_init_266 ?_
        refine r_iast dX11_init_267 rfl (by rw [eix]; exact vp_in_nI (show 6 * i + d < 4374 by omega) (by decide)) ?_
        refine r_iload_n 1 rfl dX11_init_268 ?_
        refine r_iconst (v := 3) rfl dX11_init_269 ?_
        refine r_idiv (by decide) dX11_init_270 ?_
        rw [d3 _ hq, dq_div (show d < 6 by omega)]
        refine r_istore_n (ls2 := [(2, .int (nI (i / 3 ^ (6 - d)))), (3, .int (nI d)), (1, .int (nI i)), (0, .ref 124)]) dX11_init_271 (by decide) rfl ?_
        refine r_iinc (v := (dm d)) (ls2 := [(3, .int (dm d)), (2, .int (nI (i / 3 ^ (6 - d)))), (1, .int (nI i)), (0, .ref 124)]) 1 dX11_init_272 rfl (nI_d1 _) (by decide) rfl ?_
        refine r_goto (tgt := 250) dX11_init_275 (by decide) ?_
        refine r_sub [0, 1, 2, 3] rfl ?_
        refine r_mem ?_ rfl rfl (ihd (by omega))
        have e3 := m3 _ hq
        rw [d3 _ hq, dq_div (show d < 6 by omega)] at e3
        rw [eix, nI_clamp (by omega), e3, dq_dgt (show d < 6 by omega)]
        exact muD_s (by omega) _
    refine r_iload_n 0 rfl dX11_init_239 ?_
    refine r_sipush (v := 729) rfl dX11_init_240 ?_
    refine r_icmpge (tgt := 319) dX11_init_243 (by decide) (fun zh243 => ?_) (fun zh243 => ?_)
    · obtain rfl : i = 729 := by have := geL (k := 729) (by decide) (by omega) zh243; omega
      exact r_vret hG dX11_init_319 (⟨rfl, rfl, rfl, rfl⟩)
    · have hlt : i < 729 := ltL (by omega) zh243
      refine r_iload_n 0 rfl dX11_init_246 ?_
      refine r_nmi (fun zv247 ze247 => ?_)
      refine r_istore_n (ls2 := [(2, .int zv247), (1, .int (nI i)), (0, .ref 124)]) dX11_init_247 (by decide) rfl ?_
      refine r_iconst (v := 5) rfl dX11_init_248 ?_
      refine r_istore_n (ls2 := [(3, .int 5), (2, .int zv247), (1, .int (nI i)), (0, .ref 124)]) dX11_init_249 (by decide) rfl ?_
      subst ze247
      have h6 := in1 hlt 6 (by decide)
      rw [show i / 3 ^ (6 - 6) = i from by simp, show dm 6 = 5 from by decide] at h6
      exact r_sub [0, 1, 2, 3] rfl (r_mem (muD_6 i _).symm rfl rfl h6)
  refine r_aload_n 0 rfl dX11_init_0 ?_
  refine r_obj dX11_init_1 ol_X11_13 (Nat.le_of_ble_eq_true rfl) (Nat.le_of_ble_eq_true rfl) ?_
  refine r_aload_n 0 rfl dX11_init_4 ?_
  refine r_iconst (v := (-1)) rfl dX11_init_5 ?_
  refine r_puti dX11_init_6 fl_X11_10 rfl rfl rfl ?_
  refine r_aload_n 0 rfl dX11_init_9 ?_
  refine r_sipush (v := 729) rfl dX11_init_10 ?_
  refine r_newa (k0 := 125) (kd := 14) (N := 729) dX11_init_13 rfl (by decide) na_long rfl ac_l (by decide) (by decide) (Nat.le_of_ble_eq_true rfl) (by repeat (first | exact hZ.w (Nat.le_of_ble_eq_true rfl) | refine Zr_r ?_ (Nat.le_of_ble_eq_true rfl) | refine Zr_s ?_ (Nat.le_of_ble_eq_true rfl) | refine Zr_i ?_ (Nat.le_of_ble_eq_true rfl) | refine Zr_kt ?_ (Nat.le_of_ble_eq_true rfl))) (Nat.le_of_ble_eq_true rfl) (Nat.le_of_ble_eq_true rfl) ?_
  refine r_putrF dX11_init_15 fl_X11_19 rfl rfl rfl hmn rfl ?_
  refine r_aload_n 0 rfl dX11_init_18 ?_
  refine r_sipush (v := 4374) rfl dX11_init_19 ?_
  refine r_newa (k0 := 126) (kd := 13) (N := 4374) dX11_init_22 rfl (by decide) na_int rfl (ac_i (by decide)) (by decide) (by decide) (Nat.le_of_ble_eq_true rfl) (by repeat (first | exact hZ.w (Nat.le_of_ble_eq_true rfl) | refine Zr_r ?_ (Nat.le_of_ble_eq_true rfl) | refine Zr_s ?_ (Nat.le_of_ble_eq_true rfl) | refine Zr_i ?_ (Nat.le_of_ble_eq_true rfl) | refine Zr_kt ?_ (Nat.le_of_ble_eq_true rfl))) (Nat.le_of_ble_eq_true rfl) (Nat.le_of_ble_eq_true rfl) ?_
  refine r_putrF dX11_init_24 fl_X11_23 rfl rfl rfl hmn rfl ?_
  refine r_aload_n 0 rfl dX11_init_27 ?_
  refine r_sipush (v := 600) rfl dX11_init_28 ?_
  refine r_newa (k0 := 127) (kd := 12) (N := 600) dX11_init_31 rfl (by decide) na_byte rfl (ac_i (by decide)) (by decide) (by decide) (Nat.le_of_ble_eq_true rfl) (by repeat (first | exact hZ.w (Nat.le_of_ble_eq_true rfl) | refine Zr_r ?_ (Nat.le_of_ble_eq_true rfl) | refine Zr_s ?_ (Nat.le_of_ble_eq_true rfl) | refine Zr_i ?_ (Nat.le_of_ble_eq_true rfl) | refine Zr_kt ?_ (Nat.le_of_ble_eq_true rfl))) (Nat.le_of_ble_eq_true rfl) (Nat.le_of_ble_eq_true rfl) ?_
  refine r_putrF dX11_init_33 fl_X11_27 rfl rfl rfl hmn rfl ?_
  refine r_aload_n 0 rfl dX11_init_36 ?_
  refine r_bipush (v := 88) rfl dX11_init_37 ?_
  refine r_newa (k0 := 128) (kd := 13) (N := 88) dX11_init_39 rfl (by decide) na_int rfl (ac_i (by decide)) (by decide) (by decide) (Nat.le_of_ble_eq_true rfl) (by repeat (first | exact hZ.w (Nat.le_of_ble_eq_true rfl) | refine Zr_r ?_ (Nat.le_of_ble_eq_true rfl) | refine Zr_s ?_ (Nat.le_of_ble_eq_true rfl) | refine Zr_i ?_ (Nat.le_of_ble_eq_true rfl) | refine Zr_kt ?_ (Nat.le_of_ble_eq_true rfl))) (Nat.le_of_ble_eq_true rfl) (Nat.le_of_ble_eq_true rfl) ?_
  refine r_putrF dX11_init_41 fl_X11_31 rfl rfl rfl hmn rfl ?_
  refine r_aload_n 0 rfl dX11_init_44 ?_
  refine r_bipush (v := 88) rfl dX11_init_45 ?_
  refine r_newa (k0 := 129) (kd := 13) (N := 88) dX11_init_47 rfl (by decide) na_int rfl (ac_i (by decide)) (by decide) (by decide) (Nat.le_of_ble_eq_true rfl) (by repeat (first | exact hZ.w (Nat.le_of_ble_eq_true rfl) | refine Zr_r ?_ (Nat.le_of_ble_eq_true rfl) | refine Zr_s ?_ (Nat.le_of_ble_eq_true rfl) | refine Zr_i ?_ (Nat.le_of_ble_eq_true rfl) | refine Zr_kt ?_ (Nat.le_of_ble_eq_true rfl))) (Nat.le_of_ble_eq_true rfl) (Nat.le_of_ble_eq_true rfl) ?_
  refine r_putrF dX11_init_49 fl_X11_34 rfl rfl rfl hmn rfl ?_
  refine r_aload_n 0 rfl dX11_init_52 ?_
  refine r_iconst (v := 4) rfl dX11_init_53 ?_
  refine r_newa (k0 := 130) (kd := 13) (N := 4) dX11_init_54 rfl (by decide) na_int rfl (ac_i (by decide)) (by decide) (by decide) (Nat.le_of_ble_eq_true rfl) (by repeat (first | exact hZ.w (Nat.le_of_ble_eq_true rfl) | refine Zr_r ?_ (Nat.le_of_ble_eq_true rfl) | refine Zr_s ?_ (Nat.le_of_ble_eq_true rfl) | refine Zr_i ?_ (Nat.le_of_ble_eq_true rfl) | refine Zr_kt ?_ (Nat.le_of_ble_eq_true rfl))) (Nat.le_of_ble_eq_true rfl) (Nat.le_of_ble_eq_true rfl) ?_
  refine r_putrF dX11_init_56 fl_X11_37 rfl rfl rfl hmn rfl ?_
  refine r_aload_n 0 rfl dX11_init_59 ?_
  refine r_iconst (v := 4) rfl dX11_init_60 ?_
  refine r_newa (k0 := 131) (kd := 13) (N := 4) dX11_init_61 rfl (by decide) na_int rfl (ac_i (by decide)) (by decide) (by decide) (Nat.le_of_ble_eq_true rfl) (by repeat (first | exact hZ.w (Nat.le_of_ble_eq_true rfl) | refine Zr_r ?_ (Nat.le_of_ble_eq_true rfl) | refine Zr_s ?_ (Nat.le_of_ble_eq_true rfl) | refine Zr_i ?_ (Nat.le_of_ble_eq_true rfl) | refine Zr_kt ?_ (Nat.le_of_ble_eq_true rfl))) (Nat.le_of_ble_eq_true rfl) (Nat.le_of_ble_eq_true rfl) ?_
  refine r_putrF dX11_init_63 fl_X11_40 rfl rfl rfl hmn rfl ?_
  refine r_aload_n 0 rfl dX11_init_66 ?_
  refine r_sipush (v := 1056) rfl dX11_init_67 ?_
  refine r_newa (k0 := 132) (kd := 13) (N := 1056) dX11_init_70 rfl (by decide) na_int rfl (ac_i (by decide)) (by decide) (by decide) (Nat.le_of_ble_eq_true rfl) (by repeat (first | exact hZ.w (Nat.le_of_ble_eq_true rfl) | refine Zr_r ?_ (Nat.le_of_ble_eq_true rfl) | refine Zr_s ?_ (Nat.le_of_ble_eq_true rfl) | refine Zr_i ?_ (Nat.le_of_ble_eq_true rfl) | refine Zr_kt ?_ (Nat.le_of_ble_eq_true rfl))) (Nat.le_of_ble_eq_true rfl) (Nat.le_of_ble_eq_true rfl) ?_
  refine r_putrF dX11_init_72 fl_X11_43 rfl rfl rfl hmn rfl ?_
  refine r_aload_n 0 rfl dX11_init_75 ?_
  refine r_bipush (v := 6) rfl dX11_init_76 ?_
  refine r_newa (k0 := 133) (kd := 15) (N := 6) dX11_init_78 rfl (by decide) na_boolean rfl (ac_i (by decide)) (by decide) (by decide) (Nat.le_of_ble_eq_true rfl) (by repeat (first | exact hZ.w (Nat.le_of_ble_eq_true rfl) | refine Zr_r ?_ (Nat.le_of_ble_eq_true rfl) | refine Zr_s ?_ (Nat.le_of_ble_eq_true rfl) | refine Zr_i ?_ (Nat.le_of_ble_eq_true rfl) | refine Zr_kt ?_ (Nat.le_of_ble_eq_true rfl))) (Nat.le_of_ble_eq_true rfl) (Nat.le_of_ble_eq_true rfl) ?_
  refine r_putrF dX11_init_80 fl_X11_46 rfl rfl rfl hmn rfl ?_
  refine r_aload_n 0 rfl dX11_init_83 ?_
  refine r_bipush (v := 8) rfl dX11_init_84 ?_
  refine r_newa (k0 := 134) (kd := 15) (N := 8) dX11_init_86 rfl (by decide) na_boolean rfl (ac_i (by decide)) (by decide) (by decide) (Nat.le_of_ble_eq_true rfl) (by repeat (first | exact hZ.w (Nat.le_of_ble_eq_true rfl) | refine Zr_r ?_ (Nat.le_of_ble_eq_true rfl) | refine Zr_s ?_ (Nat.le_of_ble_eq_true rfl) | refine Zr_i ?_ (Nat.le_of_ble_eq_true rfl) | refine Zr_kt ?_ (Nat.le_of_ble_eq_true rfl))) (Nat.le_of_ble_eq_true rfl) (Nat.le_of_ble_eq_true rfl) ?_
  refine r_putrF dX11_init_88 fl_X11_50 rfl rfl rfl hmn rfl ?_
  refine r_aload_n 0 rfl dX11_init_91 ?_
  refine r_bipush (v := 6) rfl dX11_init_92 ?_
  refine r_newa (k0 := 135) (kd := 13) (N := 6) dX11_init_94 rfl (by decide) na_int rfl (ac_i (by decide)) (by decide) (by decide) (Nat.le_of_ble_eq_true rfl) (by repeat (first | exact hZ.w (Nat.le_of_ble_eq_true rfl) | refine Zr_r ?_ (Nat.le_of_ble_eq_true rfl) | refine Zr_s ?_ (Nat.le_of_ble_eq_true rfl) | refine Zr_i ?_ (Nat.le_of_ble_eq_true rfl) | refine Zr_kt ?_ (Nat.le_of_ble_eq_true rfl))) (Nat.le_of_ble_eq_true rfl) (Nat.le_of_ble_eq_true rfl) ?_
  refine r_putrF dX11_init_96 fl_X11_53 rfl rfl rfl hmn rfl ?_
  refine r_aload_n 0 rfl dX11_init_99 ?_
  refine r_bipush (v := 6) rfl dX11_init_100 ?_
  refine r_newa (k0 := 136) (kd := 13) (N := 6) dX11_init_102 rfl (by decide) na_int rfl (ac_i (by decide)) (by decide) (by decide) (Nat.le_of_ble_eq_true rfl) (by repeat (first | exact hZ.w (Nat.le_of_ble_eq_true rfl) | refine Zr_r ?_ (Nat.le_of_ble_eq_true rfl) | refine Zr_s ?_ (Nat.le_of_ble_eq_true rfl) | refine Zr_i ?_ (Nat.le_of_ble_eq_true rfl) | refine Zr_kt ?_ (Nat.le_of_ble_eq_true rfl))) (Nat.le_of_ble_eq_true rfl) (Nat.le_of_ble_eq_true rfl) ?_
  refine r_putrF dX11_init_104 fl_X11_56 rfl rfl rfl hmn rfl ?_
  refine r_aload_n 0 rfl dX11_init_107 ?_
  refine r_iconst (v := 5) rfl dX11_init_108 ?_
  refine r_newa (k0 := 137) (kd := 14) (N := 5) dX11_init_109 rfl (by decide) na_long rfl ac_l (by decide) (by decide) (Nat.le_of_ble_eq_true rfl) (by repeat (first | exact hZ.w (Nat.le_of_ble_eq_true rfl) | refine Zr_r ?_ (Nat.le_of_ble_eq_true rfl) | refine Zr_s ?_ (Nat.le_of_ble_eq_true rfl) | refine Zr_i ?_ (Nat.le_of_ble_eq_true rfl) | refine Zr_kt ?_ (Nat.le_of_ble_eq_true rfl))) (Nat.le_of_ble_eq_true rfl) (Nat.le_of_ble_eq_true rfl) ?_
  refine r_putrF dX11_init_111 fl_X11_59 rfl rfl rfl hmn rfl ?_
  refine r_aload_n 0 rfl dX11_init_114 ?_
  refine r_iconst (v := 5) rfl dX11_init_115 ?_
  refine r_newa (k0 := 138) (kd := 14) (N := 5) dX11_init_116 rfl (by decide) na_long rfl ac_l (by decide) (by decide) (Nat.le_of_ble_eq_true rfl) (by repeat (first | exact hZ.w (Nat.le_of_ble_eq_true rfl) | refine Zr_r ?_ (Nat.le_of_ble_eq_true rfl) | refine Zr_s ?_ (Nat.le_of_ble_eq_true rfl) | refine Zr_i ?_ (Nat.le_of_ble_eq_true rfl) | refine Zr_kt ?_ (Nat.le_of_ble_eq_true rfl))) (Nat.le_of_ble_eq_true rfl) (Nat.le_of_ble_eq_true rfl) ?_
  refine r_putrF dX11_init_118 fl_X11_62 rfl rfl rfl hmn rfl ?_
  refine r_aload_n 0 rfl dX11_init_121 ?_
  refine r_bipush (v := 41) rfl dX11_init_122 ?_
  refine r_newa (k0 := 139) (kd := 13) (N := 41) dX11_init_124 rfl (by decide) na_int rfl (ac_i (by decide)) (by decide) (by decide) (Nat.le_of_ble_eq_true rfl) (by repeat (first | exact hZ.w (Nat.le_of_ble_eq_true rfl) | refine Zr_r ?_ (Nat.le_of_ble_eq_true rfl) | refine Zr_s ?_ (Nat.le_of_ble_eq_true rfl) | refine Zr_i ?_ (Nat.le_of_ble_eq_true rfl) | refine Zr_kt ?_ (Nat.le_of_ble_eq_true rfl))) (Nat.le_of_ble_eq_true rfl) (Nat.le_of_ble_eq_true rfl) ?_
  refine r_putrF dX11_init_126 fl_X11_65 rfl rfl rfl hmn rfl ?_
  refine r_aload_n 0 rfl dX11_init_129 ?_
  refine r_iconst (v := 5) rfl dX11_init_130 ?_
  refine r_newa (k0 := 140) (kd := 15) (N := 5) dX11_init_131 rfl (by decide) na_boolean rfl (ac_i (by decide)) (by decide) (by decide) (Nat.le_of_ble_eq_true rfl) (by repeat (first | exact hZ.w (Nat.le_of_ble_eq_true rfl) | refine Zr_r ?_ (Nat.le_of_ble_eq_true rfl) | refine Zr_s ?_ (Nat.le_of_ble_eq_true rfl) | refine Zr_i ?_ (Nat.le_of_ble_eq_true rfl) | refine Zr_kt ?_ (Nat.le_of_ble_eq_true rfl))) (Nat.le_of_ble_eq_true rfl) (Nat.le_of_ble_eq_true rfl) ?_
  refine r_putrF dX11_init_133 fl_X11_68 rfl rfl rfl hmn rfl ?_
  refine r_aload_n 0 rfl dX11_init_136 ?_
  refine r_iconst (v := 5) rfl dX11_init_137 ?_
  refine r_newa (k0 := 141) (kd := 15) (N := 5) dX11_init_138 rfl (by decide) na_boolean rfl (ac_i (by decide)) (by decide) (by decide) (Nat.le_of_ble_eq_true rfl) (by repeat (first | exact hZ.w (Nat.le_of_ble_eq_true rfl) | refine Zr_r ?_ (Nat.le_of_ble_eq_true rfl) | refine Zr_s ?_ (Nat.le_of_ble_eq_true rfl) | refine Zr_i ?_ (Nat.le_of_ble_eq_true rfl) | refine Zr_kt ?_ (Nat.le_of_ble_eq_true rfl))) (Nat.le_of_ble_eq_true rfl) (Nat.le_of_ble_eq_true rfl) ?_
  refine r_putrF dX11_init_140 fl_X11_71 rfl rfl rfl hmn rfl ?_
  refine r_aload_n 0 rfl dX11_init_143 ?_
  refine r_sipush (v := 729) rfl dX11_init_144 ?_
  refine r_newa (k0 := 142) (kd := 15) (N := 729) dX11_init_147 rfl (by decide) na_boolean rfl (ac_i (by decide)) (by decide) (by decide) (Nat.le_of_ble_eq_true rfl) (by repeat (first | exact hZ.w (Nat.le_of_ble_eq_true rfl) | refine Zr_r ?_ (Nat.le_of_ble_eq_true rfl) | refine Zr_s ?_ (Nat.le_of_ble_eq_true rfl) | refine Zr_i ?_ (Nat.le_of_ble_eq_true rfl) | refine Zr_kt ?_ (Nat.le_of_ble_eq_true rfl))) (Nat.le_of_ble_eq_true rfl) (Nat.le_of_ble_eq_true rfl) ?_
  refine r_putrF dX11_init_149 fl_X11_74 rfl rfl rfl hmn rfl ?_
  refine r_aload_n 0 rfl dX11_init_152 ?_
  refine r_iconst (v := 5) rfl dX11_init_153 ?_
  refine r_newa (k0 := 143) (kd := 13) (N := 5) dX11_init_154 rfl (by decide) na_int rfl (ac_i (by decide)) (by decide) (by decide) (Nat.le_of_ble_eq_true rfl) (by repeat (first | exact hZ.w (Nat.le_of_ble_eq_true rfl) | refine Zr_r ?_ (Nat.le_of_ble_eq_true rfl) | refine Zr_s ?_ (Nat.le_of_ble_eq_true rfl) | refine Zr_i ?_ (Nat.le_of_ble_eq_true rfl) | refine Zr_kt ?_ (Nat.le_of_ble_eq_true rfl))) (Nat.le_of_ble_eq_true rfl) (Nat.le_of_ble_eq_true rfl) ?_
  refine r_putrF dX11_init_156 fl_X11_77 rfl rfl rfl hmn rfl ?_
  refine r_aload_n 0 rfl dX11_init_159 ?_
  refine r_sipush (v := 3645) rfl dX11_init_160 ?_
  refine r_newa (k0 := 144) (kd := 13) (N := 3645) dX11_init_163 rfl (by decide) na_int rfl (ac_i (by decide)) (by decide) (by decide) (Nat.le_of_ble_eq_true rfl) (by repeat (first | exact hZ.w (Nat.le_of_ble_eq_true rfl) | refine Zr_r ?_ (Nat.le_of_ble_eq_true rfl) | refine Zr_s ?_ (Nat.le_of_ble_eq_true rfl) | refine Zr_i ?_ (Nat.le_of_ble_eq_true rfl) | refine Zr_kt ?_ (Nat.le_of_ble_eq_true rfl))) (Nat.le_of_ble_eq_true rfl) (Nat.le_of_ble_eq_true rfl) ?_
  refine r_putrF dX11_init_165 fl_X11_80 rfl rfl rfl hmn rfl ?_
  refine r_aload_n 0 rfl dX11_init_168 ?_
  refine r_iconst (v := 5) rfl dX11_init_169 ?_
  refine r_newa (k0 := 145) (kd := 13) (N := 5) dX11_init_170 rfl (by decide) na_int rfl (ac_i (by decide)) (by decide) (by decide) (Nat.le_of_ble_eq_true rfl) (by repeat (first | exact hZ.w (Nat.le_of_ble_eq_true rfl) | refine Zr_r ?_ (Nat.le_of_ble_eq_true rfl) | refine Zr_s ?_ (Nat.le_of_ble_eq_true rfl) | refine Zr_i ?_ (Nat.le_of_ble_eq_true rfl) | refine Zr_kt ?_ (Nat.le_of_ble_eq_true rfl))) (Nat.le_of_ble_eq_true rfl) (Nat.le_of_ble_eq_true rfl) ?_
  refine r_putrF dX11_init_172 fl_X11_83 rfl rfl rfl hmn rfl ?_
  refine r_aload_n 0 rfl dX11_init_175 ?_
  refine r_bipush (v := 25) rfl dX11_init_176 ?_
  refine r_newa (k0 := 146) (kd := 13) (N := 25) dX11_init_178 rfl (by decide) na_int rfl (ac_i (by decide)) (by decide) (by decide) (Nat.le_of_ble_eq_true rfl) (by repeat (first | exact hZ.w (Nat.le_of_ble_eq_true rfl) | refine Zr_r ?_ (Nat.le_of_ble_eq_true rfl) | refine Zr_s ?_ (Nat.le_of_ble_eq_true rfl) | refine Zr_i ?_ (Nat.le_of_ble_eq_true rfl) | refine Zr_kt ?_ (Nat.le_of_ble_eq_true rfl))) (Nat.le_of_ble_eq_true rfl) (Nat.le_of_ble_eq_true rfl) ?_
  refine r_putrF dX11_init_180 fl_X11_86 rfl rfl rfl hmn rfl ?_
  refine r_aload_n 0 rfl dX11_init_183 ?_
  refine r_iconst (v := 5) rfl dX11_init_184 ?_
  refine r_newa (k0 := 147) (kd := 13) (N := 5) dX11_init_185 rfl (by decide) na_int rfl (ac_i (by decide)) (by decide) (by decide) (Nat.le_of_ble_eq_true rfl) (by repeat (first | exact hZ.w (Nat.le_of_ble_eq_true rfl) | refine Zr_r ?_ (Nat.le_of_ble_eq_true rfl) | refine Zr_s ?_ (Nat.le_of_ble_eq_true rfl) | refine Zr_i ?_ (Nat.le_of_ble_eq_true rfl) | refine Zr_kt ?_ (Nat.le_of_ble_eq_true rfl))) (Nat.le_of_ble_eq_true rfl) (Nat.le_of_ble_eq_true rfl) ?_
  refine r_putrF dX11_init_187 fl_X11_89 rfl rfl rfl hmn rfl ?_
  refine r_aload_n 0 rfl dX11_init_190 ?_
  refine r_sipush (v := 729) rfl dX11_init_191 ?_
  refine r_newa (k0 := 148) (kd := 14) (N := 729) dX11_init_194 rfl (by decide) na_long rfl ac_l (by decide) (by decide) (Nat.le_of_ble_eq_true rfl) (by repeat (first | exact hZ.w (Nat.le_of_ble_eq_true rfl) | refine Zr_r ?_ (Nat.le_of_ble_eq_true rfl) | refine Zr_s ?_ (Nat.le_of_ble_eq_true rfl) | refine Zr_i ?_ (Nat.le_of_ble_eq_true rfl) | refine Zr_kt ?_ (Nat.le_of_ble_eq_true rfl))) (Nat.le_of_ble_eq_true rfl) (Nat.le_of_ble_eq_true rfl) ?_
  refine r_putrF dX11_init_196 fl_X11_92 rfl rfl rfl hmn rfl ?_
  refine r_aload_n 0 rfl dX11_init_199 ?_
  refine r_bipush (v := 65) rfl dX11_init_200 ?_
  refine r_newa (k0 := 149) (kd := 12) (N := 65) dX11_init_202 rfl (by decide) na_byte rfl (ac_i (by decide)) (by decide) (by decide) (Nat.le_of_ble_eq_true rfl) (by repeat (first | exact hZ.w (Nat.le_of_ble_eq_true rfl) | refine Zr_r ?_ (Nat.le_of_ble_eq_true rfl) | refine Zr_s ?_ (Nat.le_of_ble_eq_true rfl) | refine Zr_i ?_ (Nat.le_of_ble_eq_true rfl) | refine Zr_kt ?_ (Nat.le_of_ble_eq_true rfl))) (Nat.le_of_ble_eq_true rfl) (Nat.le_of_ble_eq_true rfl) ?_
  refine r_putrF dX11_init_204 fl_X11_95 rfl rfl rfl hmn rfl ?_
  refine r_aload_n 0 rfl dX11_init_207 ?_
  refine r_bipush (v := 6) rfl dX11_init_208 ?_
  refine r_newa (k0 := 150) (kd := 13) (N := 6) dX11_init_210 rfl (by decide) na_int rfl (ac_i (by decide)) (by decide) (by decide) (Nat.le_of_ble_eq_true rfl) (by repeat (first | exact hZ.w (Nat.le_of_ble_eq_true rfl) | refine Zr_r ?_ (Nat.le_of_ble_eq_true rfl) | refine Zr_s ?_ (Nat.le_of_ble_eq_true rfl) | refine Zr_i ?_ (Nat.le_of_ble_eq_true rfl) | refine Zr_kt ?_ (Nat.le_of_ble_eq_true rfl))) (Nat.le_of_ble_eq_true rfl) (Nat.le_of_ble_eq_true rfl) ?_
  refine r_putrF dX11_init_212 fl_X11_98 rfl rfl rfl hmn rfl ?_
  refine r_aload_n 0 rfl dX11_init_215 ?_
  refine r_bipush (v := 6) rfl dX11_init_216 ?_
  refine r_newa (k0 := 151) (kd := 13) (N := 6) dX11_init_218 rfl (by decide) na_int rfl (ac_i (by decide)) (by decide) (by decide) (Nat.le_of_ble_eq_true rfl) (by repeat (first | exact hZ.w (Nat.le_of_ble_eq_true rfl) | refine Zr_r ?_ (Nat.le_of_ble_eq_true rfl) | refine Zr_s ?_ (Nat.le_of_ble_eq_true rfl) | refine Zr_i ?_ (Nat.le_of_ble_eq_true rfl) | refine Zr_kt ?_ (Nat.le_of_ble_eq_true rfl))) (Nat.le_of_ble_eq_true rfl) (Nat.le_of_ble_eq_true rfl) ?_
  refine r_putrF dX11_init_220 fl_X11_101 rfl rfl rfl hmn rfl ?_
  refine r_aload_n 0 rfl dX11_init_223 ?_
  refine r_iconst (v := 5) rfl dX11_init_224 ?_
  refine r_newa (k0 := 152) (kd := 14) (N := 5) dX11_init_225 rfl (by decide) na_long rfl ac_l (by decide) (by decide) (Nat.le_of_ble_eq_true rfl) (by repeat (first | exact hZ.w (Nat.le_of_ble_eq_true rfl) | refine Zr_r ?_ (Nat.le_of_ble_eq_true rfl) | refine Zr_s ?_ (Nat.le_of_ble_eq_true rfl) | refine Zr_i ?_ (Nat.le_of_ble_eq_true rfl) | refine Zr_kt ?_ (Nat.le_of_ble_eq_true rfl))) (Nat.le_of_ble_eq_true rfl) (Nat.le_of_ble_eq_true rfl) ?_
  refine r_putrF dX11_init_227 fl_X11_104 rfl rfl rfl hmn rfl ?_
  refine r_aload_n 0 rfl dX11_init_230 ?_
  refine r_iconst (v := 5) rfl dX11_init_231 ?_
  refine r_newa (k0 := 153) (kd := 14) (N := 5) dX11_init_232 rfl (by decide) na_long rfl ac_l (by decide) (by decide) (Nat.le_of_ble_eq_true rfl) (by repeat (first | exact hZ.w (Nat.le_of_ble_eq_true rfl) | refine Zr_r ?_ (Nat.le_of_ble_eq_true rfl) | refine Zr_s ?_ (Nat.le_of_ble_eq_true rfl) | refine Zr_i ?_ (Nat.le_of_ble_eq_true rfl) | refine Zr_kt ?_ (Nat.le_of_ble_eq_true rfl))) (Nat.le_of_ble_eq_true rfl) (Nat.le_of_ble_eq_true rfl) ?_
  refine r_putrF dX11_init_234 fl_X11_107 rfl rfl rfl hmn rfl ?_
  refine r_iconst (v := 0) rfl dX11_init_237 ?_
  refine r_istore_n (ls2 := [(1, .int 0), (0, .ref 124)]) dX11_init_238 (by decide) rfl ?_
  refine r_mem ?_ ?_ rfl (loop 0 (by decide))
  · funext b k
    unfold muM
    rw [if_neg (by omega)]
  · funext b k
    unfold cbM
    rw [if_neg (by omega)]

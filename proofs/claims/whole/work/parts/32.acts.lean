/-! Acts: 29; kept 29 2, rows 30 (int[][]; its rows 31 .. 42 move) -/
/-- the class of int[][] is that of arrays of int[] -/
def x_AA (X : xG) : Prop := (∃ kA : Class, X.2.2.2.1.vm.classes[X.2.2.1 18]? = some kA ∧ kA.kind = .array (X.2.2.1 13) (.array .int)) ∧ ∃ kC : Class, X.2.2.2.1.vm.classes[X.2.2.1 13]? = some kC
theorem x_asg (vm : Vm) (c : ClassId) : vm.assignable c c = true := Vm.assignable_self vm c
theorem r_aast {X : xG} {G : xM} {own : String} {cc : ByteArray} {nL : Nat} {R : Room} {n : Nat} {sh : List (Nat × Nat)} {MI : Nat → Nat → Int32} {ML : Nat → Nat → Int64} {MR : Nat → Nat → Option Nat} {cells slots pc : Nat} {ls : List (Nat × Value)} {st : List Value} (hAA : x_AA X) {N a b K : Nat} {i : Int32} (hd : decode cc pc = .ok (.aastore, 1)) (hs : sh[a]? = some (18, N)) (hv : sh[b]? = some (13, K)) (hi : vp_in i N) (k : RW X G own cc nL R n sh MI ML (u2 MR a i.toNatClampNeg (some b)) cells slots (pc + 1) ls st) : RW X G own cc nL R n sh MI ML MR cells slots pc ls (.ref b :: .int i :: .ref a :: st) := by
  obtain ⟨p, e, s, m, args, below, meth, c, rt, mn, Q⟩ := G
  intro O H locs la hP hL hS hl hn
  have hlt : i.toNatClampNeg < N := Nat.not_le.mp fun q => hi (Or.inr q)
  have h0 : ¬ i < 0 := fun q => hi (Or.inl q)
  have hvm := O.2.2.2.2.2.1.2.2.1
  obtain ⟨⟨kA, a1, a2⟩, kC, a3⟩ := hAA
  obtain ⟨kA', b1, e1⟩ := hvm.2.2 _ _ a1
  obtain ⟨kC', b3, e3⟩ := hvm.2.2 _ _ a3
  have hk : kA'.kind = .array (X.2.2.1 13) (.array .int) := by rw [e1]; exact a2
  have hac : x_ac X MI ML MR a 18 = .inr (.inr (.inr (.inr (fun j => (MR a j).map (x_ad X))))) := rfl
  have hc := hP a _ (x_arr hs (by decide))
  rw [hac] at hc
  have hcv := hP b _ (x_arr hv (by decide))
  refine W.aast O.1 O.2.1 hc (fun q h => by cases h) (fun h => by cases h) b1 hk rfl b3 ⟨h0, by show _ < (arrV _ _ _).slots.size; rw [arrV_size]; exact hlt⟩ hcv (fun q h => by cases h) b3 (x_asg _ _) rfl rfl hd (fun H1 e z oq => ?_)
  have hset : (x_ws X sh MI ML MR).set a (x_ad X a, .inl (X.2.2.1 18, N, x_ac X MI ML (u2 MR a i.toNatClampNeg (some b)) a 18)) = x_ws X sh MI ML (u2 MR a i.toNatClampNeg (some b)) := by
    refine x_ws_set hs ?_ (fun b hb => rfl) (fun b hb => rfl) (fun b hb => u2_row _ _ hb)
    unfold x_cell
    rw [if_neg (show ¬ ((18, N) : Nat × Nat).1 < 12 from (by decide : ¬ (18 : Nat) < 12))]
  have hP1 := hP.set (x_D hL) (x_arr hs (by decide)) (e := .inl (X.2.2.1 18, N, x_ac X MI ML (u2 MR a i.toNatClampNeg (some b)) a 18)) (H1 := H1) ?_ oq
  · rw [hset] at hP1
    exact k O H1 _ la hP1 hL (hS.put z oq ((x_D (MI := MI) (ML := ML) (MR := MR) hL).2 a _ (x_arr hs (by decide)))) hl (fun q => by rw [z]; exact hn q)
  · show H1[x_ad X a]? = some (vp_cell _ _)
    rw [e]
    show some ((arrV (X.2.2.1 18) N (fun j => va_rf ((MR a j).map (x_ad X)))).setSlot _ _) = some (arrV (X.2.2.1 18) N (fun j => va_rf ((u2 MR a i.toNatClampNeg (some b) a j).map (x_ad X))))
    rw [arrV_store]
    congr 2
    funext q
    by_cases hq : q = i.toNatClampNeg
    · subst hq
      simp [updV, u2, va_rf]
    · simp [updV, u2, hq]
theorem shRow {m : Nat} (h : m < 12) : SH[31 + m]? = some (13, 8) := by
  rcases (show m = 0 ∨ m = 1 ∨ m = 2 ∨ m = 3 ∨ m = 4 ∨ m = 5 ∨ m = 6 ∨ m = 7 ∨ m = 8 ∨ m = 9 ∨ m = 10 ∨ m = 11 by omega) with h | h | h | h | h | h | h | h | h | h | h | h <;> subst h <;> rfl
/-- the rows of the acts: the row at place j is 31 + r j -/
def x_Rw (MR : Nat → Nat → Option Nat) (r : Nat → Nat) : Prop := (∀ j, j < 12 → MR 30 j = some (31 + r j)) ∧ (∀ j, j < 12 → r j < 12) ∧ ∀ i j, i < 12 → j < 12 → r i = r j → i = j
def rotL (MR : Nat → Nat → Option Nat) (i : Nat) : Nat → Nat → Option Nat := fun a j => if a = 30 ∧ j < i then MR 30 (j + 1) else MR a j
def rot (MR : Nat → Nat → Option Nat) : Nat → Nat → Option Nat := u2 (rotL MR 11) 30 11 (MR 30 0)
def frR (MR : Nat → Nat → Option Nat) (K : Nat) : Nat → Nat → Option Nat := if K < 12 then MR else rot MR
def frK (K : Nat) : Nat := if K < 12 then K else 11
def frP (K : Nat) : Nat := if K < 12 then K else 0
def frG (r : Nat → Nat) (K : Nat) : Nat → Nat := fun j => if K < 12 then r j else if j < 11 then r (j + 1) else if j = 11 then r 0 else r j
theorem rot_b {MR : Nat → Nat → Option Nat} {a : Nat} (h : a ≠ 30) : rot MR a = MR a := by
  funext j
  simp only [rot, rotL, u2]
  grind
theorem frR_b {MR : Nat → Nat → Option Nat} {K a : Nat} (h : a ≠ 30) : frR MR K a = MR a := by
  unfold frR
  split
  · rfl
  · exact rot_b h
theorem Lay30 {j : Nat} : lay 30 j = none := by
  show (([] : List (Nat × Nat))).lookup j = none
  rfl
theorem frR_Lay {MR : Nat → Nat → Option Nat} {K : Nat} (hM : x_Lay MR) : x_Lay (frR MR K) := fun a j b h => by
  by_cases ha : a = 30
  · subst ha
    rw [Lay30] at h
    cases h
  · rw [frR_b ha]
    exact hM a j b h
theorem frR_Rw {MR : Nat → Nat → Option Nat} {r : Nat → Nat} {K : Nat} (h : x_Rw MR r) : x_Rw (frR MR K) (frG r K) := by
  obtain ⟨h1, h2, h3⟩ := h
  unfold frR frG
  by_cases hK : K < 12
  · simp only [hK, if_true]
    exact ⟨h1, h2, h3⟩
  · simp only [hK, if_false]
    refine ⟨fun j hj => ?_, fun j hj => ?_, fun i j hi hj he => ?_⟩
    · simp only [rot, rotL, u2]
      by_cases z : j = 11
      · subst z
        simp [h1 0 (by decide)]
      · have z2 : j < 11 := by omega
        simp [z, z2, h1 (j + 1) (by omega)]
    · by_cases z : j < 11
      · simp only [z, if_true]; exact h2 _ (by omega)
      · have z2 : j = 11 := by omega
        simp only [z, z2, if_true, if_false]; exact h2 0 (by decide)
    · by_cases z : i < 11 <;> by_cases w : j < 11
      · simp only [z, w, if_true] at he
        have := h3 (i + 1) (j + 1) (by omega) (by omega) he
        omega
      · have w2 : j = 11 := by omega
        simp only [z, w, w2, if_true, if_false] at he
        have := h3 (i + 1) 0 (by omega) (by omega) he
        omega
      · have z2 : i = 11 := by omega
        simp only [z, w, z2, if_true, if_false] at he
        have := h3 0 (j + 1) (by omega) (by omega) he
        omega
      · omega
section acts
variable {X : xG} {n : Nat} {MI : Nat → Nat → Int32} {ML : Nat → Nat → Int64} {MR : Nat → Nat → Option Nat} {r : Nat → Nat}
def frM (MI : Nat → Nat → Int32) (b K : Nat) (kd wh : Int32) : Nat → Nat → Int32 := u2 (u2 (u2 MI b 0 kd) b 1 wh) 29 2 (nI (frK K + 1))
theorem fr_end {V : Nat → Nat → Int32} {b K : Nat} {kd wh : Int32} (hb : 31 ≤ b) (hV : V 29 2 = nI (frK K)) (hV2 : ∀ b j, ¬ (b = 29 ∧ j = 2) → V b j = MI b j) : u2 (u2 (u2 V b 0 kd) b 1 wh) 29 2 (u2 (u2 V b 0 kd) b 1 wh 29 2 + 1) = frM MI b K kd wh := by
  rw [u2_row (u2 V b 0 kd) wh (show 29 ≠ b by omega), u2_row V kd (show 29 ≠ b by omega), hV, show nI (frK K) + 1 = nI (frK K + 1) from x_inc _]
  unfold frM
  funext c j
  have := hV2 c j
  simp only [u2]
  grind
set_option maxRecDepth 100000 in
theorem c_X0_fresh (hM : x_Lay MR) (hAA : x_AA X) (hR : x_Rw MR r) {K : Nat} (hK : K ≤ 12) (hk : MI 29 2 = nI K) {kd wh : Int32} : Cf X yX0_fresh cX0_fresh 5 (some (.array .int)) 1 [.ref 29, .int kd, .int wh] n SH MI ML MR (some (.ref (31 + r (frP K)))) (frM MI (31 + r (frP K)) K kd wh) ML (frR MR K) := by
  have hrl : r (frP K) < 12 := hR.2.1 _ (by unfold frP; split <;> omega)
  refine Ct_of (by decide) (Nat.le_of_ble_eq_true rfl) (fun G hG => ?_)
  have tail : ∀ (V : Nat → Nat → Int32) (ls0 : List (Nat × Value)), V 29 2 = nI (frK K) → (∀ b j, ¬ (b = 29 ∧ j = 2) → V b j = MI b j) → RW X G RX0 cX0_fresh 5 (x_rm 1 0 0) n SH V ML (frR MR K) 0 0 62 [(0, .ref 29), (1, .int kd), (2, .int wh)] [] := by
    intro V _ hV hV2
    have hk2 : frK K < 12 := by unfold frK; split <;> omega
    have hge : ¬ nI (frK K) < 0 := fun q => absurd ((nI_ltI (a := frK K) (b := 0) (by omega) (by decide)).mp q) (by omega)
    have hrow : frR MR K 30 (frK K) = some (31 + r (frP K)) := by
      rw [(frR_Rw (K := K) hR).1 _ hk2]
      unfold frG frK frP
      by_cases z : K < 12 <;> simp [z]
    refine r_aload_n 0 rfl dX0_fresh_62 ?_
    refine r_getr dX0_fresh_63 fl_X0_13 rfl ((frR_Lay hM) _ _ _ rfl) ?_
    refine r_aload_n 0 rfl dX0_fresh_66 ?_
    refine r_geti dX0_fresh_67 fl_X0_54 rfl ?_
    refine r_iflt (tgt := 80) dX0_fresh_70 (by decide) (fun zh70 => ?_) (fun zh70 => ?_)
    · exact absurd zh70 (by rw [hV]; exact hge)
    refine r_aload_n 0 rfl dX0_fresh_73 ?_
    refine r_geti dX0_fresh_74 fl_X0_54 rfl ?_
    refine r_goto (tgt := 81) dX0_fresh_77 (by decide) ?_
    refine r_aald dX0_fresh_81 rfl (by decide) (by rw [hV]; exact vp_in_nI hk2 (by decide)) (by rw [hV, nI_clamp (by omega)]; exact hrow) ?_
    refine r_astore_n (ls2 := [(3, .ref (31 + r (frP K))), (0, .ref 29), (1, .int kd), (2, .int wh)]) dX0_fresh_82 (by decide) rfl ?_
    refine r_aload_n 0 rfl dX0_fresh_83 ?_
    refine r_iconst (v := 0) rfl dX0_fresh_84 ?_
    refine r_iload_n 2 rfl dX0_fresh_85 ?_
    refine r_iast dX0_fresh_86 (shRow hrl) (vp_in_nI (show 0 < 8 by decide) (by decide)) ?_
    refine r_aload_n 0 rfl dX0_fresh_87 ?_
    refine r_iconst (v := 1) rfl dX0_fresh_88 ?_
    refine r_iload_n 3 rfl dX0_fresh_89 ?_
    refine r_iast dX0_fresh_90 (shRow hrl) (vp_in_nI (show 1 < 8 by decide) (by decide)) ?_
    refine r_aload_n 1 rfl dX0_fresh_91 ?_
    refine r_dup rfl dX0_fresh_92 ?_
    refine r_geti dX0_fresh_93 fl_X0_54 rfl ?_
    refine r_iconst (v := 1) rfl dX0_fresh_96 ?_
    refine r_iadd dX0_fresh_97 ?_
    refine r_puti dX0_fresh_98 fl_X0_54 rfl rfl rfl ?_
    refine r_aload_n 0 rfl dX0_fresh_101 ?_
    exact r_aret hG (Or.inr ⟨_, rfl⟩) dX0_fresh_102 (⟨rfl, fr_end (by omega) hV hV2, rfl, rfl⟩)
  have loop : ¬ K < 12 → ∀ i, i ≤ 11 → RW X G RX0 cX0_fresh 5 (x_rm 1 0 0) n SH MI ML (rotL MR i) 0 0 19 [(4, .int (nI i)), (3, .ref (31 + r 0)), (0, .ref 29), (1, .int kd), (2, .int wh)] [] := by
    intro hK12
    obtain rfl : K = 12 := by omega
    refine bwd (fun i hi ih => ?_)
    have hLi : x_Lay (rotL MR i) := fun a j b h => by
      by_cases ha : a = 30
      · subst ha
        rw [Lay30] at h
        cases h
      · have : rotL MR i a j = MR a j := if_neg (fun q => ha q.1)
        rw [this]
        exact hM a j b h
    have h0 := hR.2.1 0 (by decide)
    refine r_iload 0 rfl dX0_fresh_19 ?_
    refine r_bipush (v := 11) rfl dX0_fresh_21 ?_
    refine r_icmpge (tgt := 48) dX0_fresh_23 (by decide) (fun zh23 => ?_) (fun zh23 => ?_)
    · obtain rfl : i = 11 := by have := geL (k := 11) (by decide) (by omega) zh23; omega
      refine r_aload_n 2 rfl dX0_fresh_48 ?_
      refine r_getr dX0_fresh_49 fl_X0_13 rfl (hLi _ _ _ rfl) ?_
      refine r_bipush (v := 11) rfl dX0_fresh_52 ?_
      refine r_aload_n 1 rfl dX0_fresh_54 ?_
      refine r_aast hAA dX0_fresh_55 rfl (shRow h0) (vp_in_nI (show 11 < 12 by decide) (by decide)) ?_
      refine r_aload_n 2 rfl dX0_fresh_56 ?_
      refine r_bipush (v := 11) rfl dX0_fresh_57 ?_
      refine r_puti dX0_fresh_59 fl_X0_54 rfl rfl rfl ?_
      refine r_mem rfl rfl ?_ (r_sub [2, 3, 4] rfl (tail _ [] (u2_eq _ _ _ _) (fun b j h => u2_ne _ _ h)))
      unfold frR rot
      rw [if_neg (by decide), hR.1 0 (by decide)]
      rfl
    · have hlt : i < 11 := ltL (by omega) zh23
      refine r_aload_n 2 rfl dX0_fresh_26 ?_
      refine r_getr dX0_fresh_27 fl_X0_13 rfl (hLi _ _ _ rfl) ?_
      refine r_iload 0 rfl dX0_fresh_30 ?_
      refine r_aload_n 2 rfl dX0_fresh_32 ?_
      refine r_getr dX0_fresh_33 fl_X0_13 rfl (hLi _ _ _ rfl) ?_
      refine r_iload 0 rfl dX0_fresh_36 ?_
      refine r_iconst (v := 1) rfl dX0_fresh_38 ?_
      refine r_iadd dX0_fresh_39 ?_
      refine r_aald dX0_fresh_40 rfl (by decide) (by rw [show nI i + 1 = nI (i + 1) from x_inc i]; exact vp_in_nI (show i + 1 < 12 by omega) (by decide)) (by rw [show nI i + 1 = nI (i + 1) from x_inc i, nI_clamp (by omega)]; exact (if_neg (by omega)).trans (hR.1 (i + 1) (by omega))) ?_
      refine r_aast hAA dX0_fresh_41 rfl (shRow (hR.2.1 _ (by omega))) (vp_in_nI (show i < 12 by omega) (by decide)) ?_
      refine r_iinc (v := (nI (i + 1))) (ls2 := [(4, .int (nI (i + 1))), (3, .ref (31 + r 0)), (0, .ref 29), (1, .int kd), (2, .int wh)]) 0 dX0_fresh_42 rfl (x_inc i) (by decide) rfl ?_
      refine r_goto (tgt := 19) dX0_fresh_45 (by decide) ?_
      refine r_mem rfl rfl ?_ (ih hlt)
      rw [nI_clamp (by omega), ← hR.1 (i + 1) (by omega)]
      funext a j
      simp only [u2, rotL]
      grind
  refine r_aload_n 0 rfl dX0_fresh_0 ?_
  refine r_geti dX0_fresh_1 fl_X0_54 rfl ?_
  refine r_bipush (v := 12) rfl dX0_fresh_4 ?_
  refine r_icmplt (tgt := 62) dX0_fresh_6 (by decide) (fun zh6 => ?_) (fun zh6 => ?_)
  · rw [hk] at zh6
    have hK12 : K < 12 := (nI_ltI (a := K) (b := 12) (by omega) (by decide)).mp zh6
    refine r_mem rfl rfl ?_ (tail MI [] (by rw [hk]; unfold frK; rw [if_pos hK12]) (fun b j _ => rfl))
    unfold frR
    rw [if_pos hK12]
  · rw [hk] at zh6
    have hK12 : ¬ K < 12 := fun q => zh6 (nI_lt q (by decide))
    refine r_aload_n 0 rfl dX0_fresh_9 ?_
    refine r_getr dX0_fresh_10 fl_X0_13 rfl (hM _ _ _ rfl) ?_
    refine r_iconst (v := 0) rfl dX0_fresh_13 ?_
    refine r_aald dX0_fresh_14 rfl (by decide) (vp_in_nI (show 0 < 12 by decide) (by decide)) (hR.1 0 (by decide)) ?_
    refine r_astore_n (ls2 := [(3, .ref (31 + r 0)), (0, .ref 29), (1, .int kd), (2, .int wh)]) dX0_fresh_15 (by decide) rfl ?_
    refine r_iconst (v := 0) rfl dX0_fresh_16 ?_
    refine r_istore (ls2 := [(4, .int 0), (3, .ref (31 + r 0)), (0, .ref 29), (1, .int kd), (2, .int wh)]) dX0_fresh_17 (by decide) rfl ?_
    refine r_mem rfl rfl ?_ (loop hK12 0 (by decide))
    funext a j
    simp only [rotL]
    grind
theorem frM_b {b c K : Nat} {kd wh : Int32} (h1 : c ≠ b) (h2 : c ≠ 29) : frM MI b K kd wh c = MI c := by
  unfold frM
  rw [u2_row _ _ h2, u2_row _ _ h1, u2_row _ _ h1]
set_option maxRecDepth 100000 in
theorem c_X0_changeCode (hM : x_Lay MR) (hAA : x_AA X) (hR : x_Rw MR r) {K s : Nat} (hK : K ≤ 12) (hk : MI 29 2 = nI K) (hs : s < 6) {x : Int32} : Cf X yX0_changeCode cX0_changeCode 4 none 2 [.ref 29, .int (nI s), .int x] n SH MI ML MR none (u2 (u2 (frM MI (31 + r (frP K)) K 0 (nI s)) (31 + r (frP K)) 2 (MI 2 s)) 2 s x) ML (frR MR K) := by
  have hrl : r (frP K) < 12 := hR.2.1 _ (by unfold frP; split <;> omega)
  have hM2 : x_Lay (frR MR K) := frR_Lay hM
  refine Ct_of (by decide) (Nat.le_of_ble_eq_true rfl) (fun G hG => ?_)
  refine r_aload_n 0 rfl dX0_changeCode_0 ?_
  refine r_iconst (v := 0) rfl dX0_changeCode_1 ?_
  refine r_iload_n 1 rfl dX0_changeCode_2 ?_
  refine r_Vf [.int _, .int _] dX0_changeCode_3 lk_X0_20 mb_X0_fresh in_X0_fresh se_X0_fresh rfl (c_X0_fresh hM hAA hR hK hk) rfl rfl rfl (Nat.le_of_ble_eq_true rfl) (rfl) ?_
  refine r_astore_n (ls2 := [(3, .ref (31 + r (frP K))), (0, .ref 29), (1, .int (nI s)), (2, .int x)]) dX0_changeCode_6 (by decide) rfl ?_
  refine r_aload_n 0 rfl dX0_changeCode_7 ?_
  refine r_iconst (v := 2) rfl dX0_changeCode_8 ?_
  refine r_aload_n 1 rfl dX0_changeCode_9 ?_
  refine r_getr dX0_changeCode_10 fl_X0_16 rfl (hM2 _ _ _ rfl) ?_
  refine r_getr dX0_changeCode_13 fl_X0_24 rfl (hM2 _ _ _ rfl) ?_
  refine r_iload_n 2 rfl dX0_changeCode_16 ?_
  refine r_Sf [.ref _, .int _] dX0_changeCode_17 lk_X0_28 mb_X10_pick sc_X10_pick rfl (c_X10_pick (N := 6) rfl (by decide)) rfl (Nat.le_of_ble_eq_true rfl) (rfl) ?_
  refine r_iast dX0_changeCode_20 (shRow hrl) (vp_in_nI (show 2 < 8 by decide) (by decide)) ?_
  refine r_aload_n 1 rfl dX0_changeCode_21 ?_
  refine r_getr dX0_changeCode_22 fl_X0_16 rfl (hM2 _ _ _ rfl) ?_
  refine r_getr dX0_changeCode_25 fl_X0_24 rfl (hM2 _ _ _ rfl) ?_
  refine r_iload_n 2 rfl dX0_changeCode_28 ?_
  refine r_iload_n 3 rfl dX0_changeCode_29 ?_
  refine r_Sn [.ref _, .int _, .int _] dX0_changeCode_30 lk_X0_34 mb_X10_place sc_X10_place rfl (c_X10_place (N := 6) rfl (by decide)) rfl (Nat.le_of_ble_eq_true rfl) (rfl) ?_
  exact r_vret hG dX0_changeCode_33 (⟨rfl, by unfold placeM; rw [if_pos ⟨nI_pos (by omega), fun q => absurd (geL (k := 6) (by decide) (by omega) q) (by omega)⟩, nI_clamp (by omega), pickV_nI _ hs (by decide), frM_b (by omega) (by decide)]; rfl, rfl, rfl⟩)
set_option maxRecDepth 100000 in
theorem c_X0_addGate (hM : x_Lay MR) (hAA : x_AA X) (hR : x_Rw MR r) {K g : Nat} (hK : K ≤ 12) (hk : MI 29 2 = nI K) (hg : g < 16) (hgr : MI 1 8 = nI g) {x y : Int32} : Cf X yX0_addGate cX0_addGate 3 none 3 [.ref 29, .int x, .int y] n SH MI ML MR none (u2 (u2 (u2 (frM MI (31 + r (frP K)) K 2 (nI g)) 12 g x) 13 g y) 1 8 (nI (g + 1))) ML (frR MR K) := by
  have hrl : r (frP K) < 12 := hR.2.1 _ (by unfold frP; split <;> omega)
  have hM2 : x_Lay (frR MR K) := frR_Lay hM
  have e1 : frM MI (31 + r (frP K)) K 2 (MI 1 8) 1 8 = nI g := by
    rw [frM_b (by omega) (by decide)]
    exact hgr
  have hpm : ∀ (V : Nat → Nat → Int32) (a : Nat) (v : Int32), placeM V a 16 (nI g) v = u2 V a g v := fun V a v => by unfold placeM; rw [if_pos ⟨nI_pos (by omega), fun q => absurd (geL (k := 16) (by decide) (by omega) q) (by omega)⟩, nI_clamp (by omega)]
  refine Ct_of (by decide) (Nat.le_of_ble_eq_true rfl) (fun G hG => ?_)
  refine r_aload_n 0 rfl dX0_addGate_0 ?_
  refine r_iconst (v := 2) rfl dX0_addGate_1 ?_
  refine r_aload_n 0 rfl dX0_addGate_2 ?_
  refine r_getr dX0_addGate_3 fl_X0_16 rfl (by first | exact hM 29 0 1 rfl | exact hM2 29 0 1 rfl) ?_
  refine r_geti dX0_addGate_6 fl_X0_46 rfl ?_
  refine r_Vf [.int _, .int _] dX0_addGate_9 lk_X0_20 mb_X0_fresh in_X0_fresh se_X0_fresh rfl (c_X0_fresh hM hAA hR hK hk) rfl rfl rfl (Nat.le_of_ble_eq_true rfl) (rfl) ?_
  refine r_pop rfl dX0_addGate_12 ?_
  skip
  refine r_aload_n 0 rfl dX0_addGate_13 ?_
  refine r_getr dX0_addGate_14 fl_X0_16 rfl (by first | exact hM 29 0 1 rfl | exact hM2 29 0 1 rfl) ?_
  refine r_iload_n 1 rfl dX0_addGate_17 ?_
  refine r_iload_n 2 rfl dX0_addGate_18 ?_
  refine r_Vn [.int _, .int _] dX0_addGate_19 lk_X0_50 mb_X5_addGate in_X5_addGate se_X5_addGate rfl (c_X5_addGate_1 hM2) rfl rfl rfl (Nat.le_of_ble_eq_true rfl) (rfl) ?_
  exact r_vret hG dX0_addGate_22 (⟨rfl, by rw [e1, hpm, u2_row _ _ (show 1 ≠ 12 by decide), e1, hpm, u2_row _ _ (show 1 ≠ 13 by decide), u2_row _ _ (show 1 ≠ 12 by decide), e1, hgr, show nI g + 1 = nI (g + 1) from x_inc g], rfl, rfl⟩)
def skM (V : Nat → Nat → Int32) (MI : Nat → Nat → Int32) (b r0 p : Nat) : Nat → Nat → Int32 := fun c j => if c = b ∧ 2 ≤ j ∧ j < 2 + p then MI (4 + r0) (j - 2) else V c j
set_option maxRecDepth 100000 in
theorem c_X0_strikeOut (hM : x_Lay MR) (hAA : x_AA X) (hR : x_Rw MR r) {K r0 A : Nat} (hK : K ≤ 12) (hk : MI 29 2 = nI K) (hA : A ≤ 8) (hr0 : r0 < A) (hAr : MI 1 6 = nI A) : Cf X yX0_strikeOut cX0_strikeOut 4 none 3 [.ref 29, .int (nI r0)] n SH MI ML MR none (removeM (skM (frM MI (31 + r (frP K)) K 1 (nI r0)) MI (31 + r (frP K)) r0 6) r0 A) ML (frR MR K) := by
  have hrl : r (frP K) < 12 := hR.2.1 _ (by unfold frP; split <;> omega)
  have hM2 : x_Lay (frR MR K) := frR_Lay hM
  refine Ct_of (by decide) (Nat.le_of_ble_eq_true rfl) (fun G hG => ?_)
  have loop : ∀ p, p ≤ 6 → RW X G RX0 cX0_strikeOut 4 (x_rm 3 0 0) n SH (skM (frM MI (31 + r (frP K)) K 1 (nI r0)) MI (31 + r (frP K)) r0 p) ML (frR MR K) 0 0 9 [(3, .int (nI p)), (2, .ref (31 + r (frP K))), (0, .ref 29), (1, .int (nI r0))] [] := by
    refine bwd (fun p hp ih => ?_)
    have hsk : ∀ c, c ≠ 31 + r (frP K) → skM (frM MI (31 + r (frP K)) K 1 (nI r0)) MI (31 + r (frP K)) r0 p c = frM MI (31 + r (frP K)) K 1 (nI r0) c := fun c h => funext fun j => if_neg fun q => h q.1
    have h2p : (2 : Int32) + nI p = nI (2 + p) := by rw [show (2 : Int32) = nI 2 from rfl, nI_add]
    refine r_iload_n 0 rfl dX0_strikeOut_9 ?_
    refine r_bipush (v := 6) rfl dX0_strikeOut_10 ?_
    refine r_icmpge (tgt := 35) dX0_strikeOut_12 (by decide) (fun zh12 => ?_) (fun zh12 => ?_)
    · obtain rfl : p = 6 := by have := geL (k := 6) (by decide) (by omega) zh12; omega
      refine r_aload_n 2 rfl dX0_strikeOut_35 ?_
      refine r_getr dX0_strikeOut_36 fl_X0_16 rfl (hM2 _ _ _ rfl) ?_
      refine r_iload_n 3 rfl dX0_strikeOut_39 ?_
      refine r_Vn [.int _] dX0_strikeOut_40 lk_X0_42 mb_X5_removeArc in_X5_removeArc se_X5_removeArc rfl (c_X5_removeArc_1 hM2 hA hr0 (by rw [hsk _ (by omega), frM_b (by omega) (by decide)]; exact hAr)) rfl rfl rfl (Nat.le_of_ble_eq_true rfl) (rfl) ?_
      exact r_vret hG dX0_strikeOut_43 (⟨rfl, rfl, rfl, rfl⟩)
    · have hlt : p < 6 := ltL (by omega) zh12
      refine r_aload_n 1 rfl dX0_strikeOut_15 ?_
      refine r_iconst (v := 2) rfl dX0_strikeOut_16 ?_
      refine r_iload_n 0 rfl dX0_strikeOut_17 ?_
      refine r_iadd dX0_strikeOut_18 ?_
      refine r_aload_n 2 rfl dX0_strikeOut_19 ?_
      refine r_getr dX0_strikeOut_20 fl_X0_16 rfl (hM2 _ _ _ rfl) ?_
      refine r_iload_n 3 rfl dX0_strikeOut_23 ?_
      refine r_iload_n 0 rfl dX0_strikeOut_24 ?_
      refine r_Vf [.int _, .int _] dX0_strikeOut_25 lk_X0_38 mb_X5_part in_X5_part se_X5_part rfl (c_X5_part_1 hM2) rfl rfl rfl (Nat.le_of_ble_eq_true rfl) (rfl) ?_
      refine r_iast dX0_strikeOut_28 (shRow hrl) (by rw [h2p]; exact vp_in_nI (show 2 + p < 8 by omega) (by decide)) ?_
      refine r_iinc (v := (nI (p + 1))) (ls2 := [(3, .int (nI (p + 1))), (2, .ref (31 + r (frP K))), (0, .ref 29), (1, .int (nI r0))]) 0 dX0_strikeOut_29 rfl (x_inc p) (by decide) rfl ?_
      refine r_goto (tgt := 9) dX0_strikeOut_32 (by decide) ?_
      refine r_mem ?_ rfl rfl (ih hlt)
      rw [h2p, nI_clamp (by omega), partV_nI (by omega) hlt, hsk _ (by omega), frM_b (by omega) (by omega)]
      funext c j
      simp only [u2, skM]
      grind
  refine r_aload_n 0 rfl dX0_strikeOut_0 ?_
  refine r_iconst (v := 1) rfl dX0_strikeOut_1 ?_
  refine r_iload_n 1 rfl dX0_strikeOut_2 ?_
  refine r_Vf [.int _, .int _] dX0_strikeOut_3 lk_X0_20 mb_X0_fresh in_X0_fresh se_X0_fresh rfl (c_X0_fresh hM hAA hR hK hk) rfl rfl rfl (Nat.le_of_ble_eq_true rfl) (rfl) ?_
  refine r_astore_n (ls2 := [(2, .ref (31 + r (frP K))), (0, .ref 29), (1, .int (nI r0))]) dX0_strikeOut_6 (by decide) rfl ?_
  refine r_iconst (v := 0) rfl dX0_strikeOut_7 ?_
  refine r_istore_n (ls2 := [(3, .int 0), (2, .ref (31 + r (frP K))), (0, .ref 29), (1, .int (nI r0))]) dX0_strikeOut_8 (by decide) rfl ?_
  refine r_mem ?_ rfl rfl (loop 0 (by decide))
  funext c j
  simp only [skM]
  grind
def tbM (V : Nat → Nat → Int32) (row : Nat → Int32) (r0 p : Nat) : Nat → Nat → Int32 := fun c j => if c = 4 + r0 ∧ j < p then row (2 + j) else V c j
/-- takeBack: K acts are kept, the latest in row b -/
def tbR (MI : Nat → Nat → Int32) (b K : Nat) (s r0 A g : Nat) : Nat → Nat → Int32 :=
  if MI b 0 = 0 then u2 (u2 MI 29 2 (nI (K - 1))) 2 s (MI b 2) else if MI b 0 = 1 then tbM (openM (u2 MI 29 2 (nI (K - 1))) 1 r0 A) (MI b) r0 6 else u2 (u2 MI 29 2 (nI (K - 1))) 1 8 (nI (g - 1))
set_option maxRecDepth 100000 in
theorem c_X0_takeBack (hM : x_Lay MR) (hR : x_Rw MR r) {K s r0 A g : Nat} (hK : K ≤ 12) (hK0 : 0 < K) (hk : MI 29 2 = nI K) (h0 : MI (31 + r (K - 1)) 0 = 0 → s < 6 ∧ MI (31 + r (K - 1)) 1 = nI s) (h1 : MI (31 + r (K - 1)) 0 = 1 → A ≤ 7 ∧ r0 ≤ A ∧ MI 1 6 = nI A ∧ MI (31 + r (K - 1)) 1 = nI r0) (h2 : ¬ MI (31 + r (K - 1)) 0 = 0 → ¬ MI (31 + r (K - 1)) 0 = 1 → 0 < g ∧ MI 1 8 = nI g) : Cf X yX0_takeBack cX0_takeBack 3 (some .int) 3 [.ref 29] n SH MI ML MR (some (.int (MI (31 + r (K - 1)) 0))) (tbR MI (31 + r (K - 1)) K s r0 A g) ML MR := by
  have hrl : r (K - 1) < 12 := hR.2.1 _ (by omega)
  obtain ⟨b, hb⟩ : ∃ b, b = 31 + r (K - 1) := ⟨_, rfl⟩
  have hsb : SH[b]? = some (13, 8) := by rw [hb]; exact shRow hrl
  have hb31 : 31 ≤ b := by omega
  have hrow : MR 30 (K - 1) = some b := by rw [hb]; exact hR.1 _ (by omega)
  rw [← hb] at h0 h1 h2 ⊢
  obtain ⟨K1, rfl⟩ : ∃ K1, K = K1 + 1 := ⟨K - 1, by omega⟩
  rw [show K1 + 1 - 1 = K1 by omega] at hrow
  have hpred : nI (K1 + 1) - 1 = nI K1 := nI_pred K1
  refine Ct_of (by decide) (Nat.le_of_ble_eq_true rfl) (fun G hG => ?_)
  obtain ⟨V, hV⟩ : ∃ V, V = u2 MI 29 2 (nI K1) := ⟨_, rfl⟩
  have hVc : ∀ c, c ≠ 29 → V c = MI c := fun c h => by rw [hV, u2_row _ _ h]
  have hV2 : V 29 2 = nI K1 := by rw [hV, u2_eq]
  have hdef : tbR MI b (K1 + 1) s r0 A g = if MI b 0 = 0 then u2 V 2 s (MI b 2) else if MI b 0 = 1 then tbM (openM V 1 r0 A) (MI b) r0 6 else u2 V 1 8 (nI (g - 1)) := by rw [hV]; rfl
  rw [hdef] at hG
  have hopb : A ≤ 7 → ∀ c, 11 < c → openM V 1 r0 A c = V c := fun hA7 c h => by
    unfold openM
    rw [u2_row _ _ (by omega)]
    funext j
    unfold opnRow
    exact if_neg (by omega)
  have hb29 : b ≠ 29 := by omega
  have hi0 : vp_in 0 8 := vp_in_nI (show 0 < 8 by decide) (by decide)
  have hi1 : vp_in 1 8 := vp_in_nI (show 1 < 8 by decide) (by decide)
  have hi2 : vp_in 2 8 := vp_in_nI (show 2 < 8 by decide) (by decide)
  have loop : ¬ MI b 0 = 0 → MI b 0 = 1 → ∀ p, p ≤ 6 → RW X G RX0 cX0_takeBack 3 (x_rm 3 0 0) n SH (tbM (openM V 1 r0 A) (MI b) r0 p) ML MR 0 0 82 [(2, .int (nI p)), (1, .ref b), (0, .ref 29)] [] := by
    intro hb0 hb1
    obtain ⟨g1, g2, g3, g4⟩ := h1 hb1
    refine bwd (fun p hp ih => ?_)
    have htb : ∀ p c, 11 < c → tbM (openM V 1 r0 A) (MI b) r0 p c = V c := fun p c h => by rw [← hopb g1 c h]; exact funext fun j => if_neg (by omega)
    have h2p : (2 : Int32) + nI p = nI (2 + p) := by rw [show (2 : Int32) = nI 2 from rfl, nI_add]
    refine r_iload_n 0 rfl dX0_takeBack_82 ?_
    refine r_bipush (v := 6) rfl dX0_takeBack_83 ?_
    refine r_icmpge (tgt := 110) dX0_takeBack_85 (by decide) (fun zh85 => ?_) (fun zh85 => ?_)
    · obtain rfl : p = 6 := by have := geL (k := 6) (by decide) (by omega) zh85; omega
      refine r_goto (tgt := 126) dX0_takeBack_110 (by decide) ?_
      refine r_aload_n 1 rfl dX0_takeBack_126 ?_
      refine r_iconst (v := 0) rfl dX0_takeBack_127 ?_
      refine r_iald dX0_takeBack_128 hsb (hi0) ?_
      exact r_iret hG dX0_takeBack_129 (⟨by rw [htb _ b (by omega), hVc b hb29]; rfl, by rw [if_neg hb0, if_pos hb1], rfl, rfl⟩)
    · have hlt : p < 6 := ltL (by omega) zh85
      refine r_aload_n 2 rfl dX0_takeBack_88 ?_
      refine r_getr dX0_takeBack_89 fl_X0_16 rfl (hM _ _ _ rfl) ?_
      refine r_aload_n 1 rfl dX0_takeBack_92 ?_
      refine r_iconst (v := 1) rfl dX0_takeBack_93 ?_
      refine r_iald dX0_takeBack_94 hsb (hi1) ?_
      refine r_iload_n 0 rfl dX0_takeBack_95 ?_
      refine r_aload_n 1 rfl dX0_takeBack_96 ?_
      refine r_iconst (v := 2) rfl dX0_takeBack_97 ?_
      refine r_iload_n 0 rfl dX0_takeBack_98 ?_
      refine r_iadd dX0_takeBack_99 ?_
      refine r_iald dX0_takeBack_100 hsb (by rw [h2p]; exact vp_in_nI (show 2 + p < 8 by omega) (by decide)) ?_
      refine r_Vn [.int _, .int _, .int _] dX0_takeBack_101 lk_X0_60 mb_X5_setPart in_X5_setPart se_X5_setPart rfl (c_X5_setPart_1 hM) rfl rfl rfl (Nat.le_of_ble_eq_true rfl) (rfl) ?_
      refine r_iinc (v := (nI (p + 1))) (ls2 := [(2, .int (nI (p + 1))), (1, .ref b), (0, .ref 29)]) 0 dX0_takeBack_104 rfl (x_inc p) (by decide) rfl ?_
      refine r_goto (tgt := 82) dX0_takeBack_107 (by decide) ?_
      refine r_mem ?_ rfl rfl (ih hlt)
      rw [h2p, nI_clamp (by omega), htb _ b (by omega), hVc b hb29, show MI b (Int32.toNatClampNeg 1) = nI r0 from g4, setPartM_nI (by omega) hlt]
      funext c j
      simp only [u2, tbM]
      grind
  refine r_aload_n 0 rfl dX0_takeBack_0 ?_
  refine r_geti dX0_takeBack_1 fl_X0_54 rfl ?_
  refine r_ifle (tgt := 16) dX0_takeBack_4 (by decide) (fun zh4 => ?_) (fun zh4 => ?_)
  · exact absurd zh4 (by rw [hk]; exact nI_nle (by omega) (by omega))
  refine r_aload_n 0 rfl dX0_takeBack_7 ?_
  refine r_geti dX0_takeBack_8 fl_X0_54 rfl ?_
  refine r_bipush (v := 12) rfl dX0_takeBack_11 ?_
  refine r_icmple (tgt := 18) dX0_takeBack_13 (by decide) (fun zh13 => ?_) (fun zh13 => ?_)
  rotate_left
  · exact absurd zh13 (fun q => q (by rw [hk]; exact nI_le hK (by decide)))
  refine r_aload_n 0 rfl dX0_takeBack_18 ?_
  refine r_dup rfl dX0_takeBack_19 ?_
  refine r_geti dX0_takeBack_20 fl_X0_54 rfl ?_
  refine r_iconst (v := 1) rfl dX0_takeBack_23 ?_
  refine r_isub dX0_takeBack_24 ?_
  refine r_puti dX0_takeBack_25 fl_X0_54 rfl rfl rfl ?_
  rw [hk, hpred, ← hV]
  refine r_aload_n 0 rfl dX0_takeBack_28 ?_
  refine r_getr dX0_takeBack_29 fl_X0_13 rfl (hM _ _ _ rfl) ?_
  refine r_aload_n 0 rfl dX0_takeBack_32 ?_
  refine r_geti dX0_takeBack_33 fl_X0_54 rfl ?_
  refine r_aald dX0_takeBack_36 rfl (by decide) (by rw [hV2]; exact vp_in_nI (show K1 < 12 by omega) (by decide)) (by rw [hV2, nI_clamp (by omega)]; exact hrow) ?_
  refine r_astore_n (ls2 := [(1, .ref b), (0, .ref 29)]) dX0_takeBack_37 (by decide) rfl ?_
  refine r_aload_n 0 rfl dX0_takeBack_38 ?_
  refine r_iconst (v := 0) rfl dX0_takeBack_39 ?_
  refine r_iald dX0_takeBack_40 hsb (hi0) ?_
  refine r_ifne (tgt := 63) dX0_takeBack_41 (by decide) (fun zh41 => ?_) (fun zh41 => ?_)
  · rw [hVc b hb29, show Int32.toNatClampNeg 0 = 0 from rfl] at zh41
    refine r_aload_n 0 rfl dX0_takeBack_63 ?_
    refine r_iconst (v := 0) rfl dX0_takeBack_64 ?_
    refine r_iald dX0_takeBack_65 hsb (hi0) ?_
    refine r_iconst (v := 1) rfl dX0_takeBack_66 ?_
    refine r_icmpne (tgt := 113) dX0_takeBack_67 (by decide) (fun zh67 => ?_) (fun zh67 => ?_)
    · rw [hVc b hb29, show Int32.toNatClampNeg 0 = 0 from rfl] at zh67
      obtain ⟨g1, g2⟩ := h2 zh41 zh67
      refine r_aload_n 1 rfl dX0_takeBack_113 ?_
      refine r_getr dX0_takeBack_114 fl_X0_16 rfl (hM _ _ _ rfl) ?_
      refine r_dup rfl dX0_takeBack_117 ?_
      refine r_geti dX0_takeBack_118 fl_X0_46 rfl ?_
      refine r_iconst (v := 1) rfl dX0_takeBack_121 ?_
      refine r_isub dX0_takeBack_122 ?_
      refine r_puti dX0_takeBack_123 fl_X0_46 rfl rfl rfl ?_
      refine r_aload_n 0 rfl dX0_takeBack_126 ?_
      refine r_iconst (v := 0) rfl dX0_takeBack_127 ?_
      refine r_iald dX0_takeBack_128 hsb (hi0) ?_
      exact r_iret hG dX0_takeBack_129 (by first
  | (rw [hVc b hb29, show MI b (Int32.toNatClampNeg 1) = nI s from g2]
     have hpl : ∀ v, placeM V 2 6 (nI s) v = u2 V 2 s v := fun v => by unfold placeM; rw [if_pos ⟨nI_pos (by omega), fun q => absurd (geL (k := 6) (by decide) (by omega) q) (by omega)⟩, nI_clamp (by omega)]
     rw [hpl]
     exact ⟨by rw [u2_row _ _ (by omega), hVc b hb29]; rfl, by rw [if_pos zh41]; rfl, rfl, rfl⟩)
  | (refine ⟨by rw [u2_row _ _ (by omega), hVc b hb29]; rfl, ?_, rfl, rfl⟩
     rw [if_neg zh41, if_neg zh67, hVc 1 (by decide), g2]
     obtain ⟨g0, rfl⟩ : ∃ g0, g = g0 + 1 := ⟨g - 1, by omega⟩
     rw [nI_pred]; rfl))
    · rw [hVc b hb29, show Int32.toNatClampNeg 0 = 0 from rfl] at zh67
      obtain ⟨g1, g2, g3, g4⟩ := h1 zh67
      refine r_aload_n 1 rfl dX0_takeBack_70 ?_
      refine r_getr dX0_takeBack_71 fl_X0_16 rfl (hM _ _ _ rfl) ?_
      refine r_aload_n 0 rfl dX0_takeBack_74 ?_
      refine r_iconst (v := 1) rfl dX0_takeBack_75 ?_
      refine r_iald dX0_takeBack_76 hsb (hi1) ?_
      refine r_Vn [.int _] dX0_takeBack_77 lk_X0_57 mb_X5_openArc in_X5_openArc se_X5_openArc rfl ((show Cf X yX5_openArc _ _ _ _ [.ref 1, .int (V b (Int32.toNatClampNeg 1))] n SH V ML MR none (openM V 1 r0 A) ML MR from by rw [hVc b hb29, show MI b (Int32.toNatClampNeg 1) = nI r0 from g4]; exact c_X5_openArc_1 hM g1 g2 (by rw [hVc 1 (by decide)]; exact g3))) rfl rfl rfl (Nat.le_of_ble_eq_true rfl) (rfl) ?_
      refine r_iconst (v := 0) rfl dX0_takeBack_80 ?_
      refine r_istore_n (ls2 := [(2, .int 0), (1, .ref b), (0, .ref 29)]) dX0_takeBack_81 (by decide) rfl ?_
      refine r_mem ?_ rfl rfl (loop zh41 zh67 0 (by decide))
      funext c j
      simp only [tbM]
      grind
  · rw [hVc b hb29, show Int32.toNatClampNeg 0 = 0 from rfl] at zh41
    obtain ⟨g1, g2⟩ := h0 zh41
    refine r_aload_n 1 rfl dX0_takeBack_44 ?_
    refine r_getr dX0_takeBack_45 fl_X0_16 rfl (hM _ _ _ rfl) ?_
    refine r_getr dX0_takeBack_48 fl_X0_24 rfl (hM _ _ _ rfl) ?_
    refine r_aload_n 0 rfl dX0_takeBack_51 ?_
    refine r_iconst (v := 1) rfl dX0_takeBack_52 ?_
    refine r_iald dX0_takeBack_53 hsb (hi1) ?_
    refine r_aload_n 0 rfl dX0_takeBack_54 ?_
    refine r_iconst (v := 2) rfl dX0_takeBack_55 ?_
    refine r_iald dX0_takeBack_56 hsb (hi2) ?_
    refine r_Sn [.ref _, .int _, .int _] dX0_takeBack_57 lk_X0_34 mb_X10_place sc_X10_place rfl (c_X10_place (N := 6) rfl (by decide)) rfl (Nat.le_of_ble_eq_true rfl) (rfl) ?_
    refine r_goto (tgt := 126) dX0_takeBack_60 (by decide) ?_
    refine r_aload_n 0 rfl dX0_takeBack_126 ?_
    refine r_iconst (v := 0) rfl dX0_takeBack_127 ?_
    refine r_iald dX0_takeBack_128 hsb (hi0) ?_
    exact r_iret hG dX0_takeBack_129 (by first
  | (rw [hVc b hb29, show MI b (Int32.toNatClampNeg 1) = nI s from g2]
     have hpl : ∀ v, placeM V 2 6 (nI s) v = u2 V 2 s v := fun v => by unfold placeM; rw [if_pos ⟨nI_pos (by omega), fun q => absurd (geL (k := 6) (by decide) (by omega) q) (by omega)⟩, nI_clamp (by omega)]
     rw [hpl]
     exact ⟨by rw [u2_row _ _ (by omega), hVc b hb29]; rfl, by rw [if_pos zh41]; rfl, rfl, rfl⟩)
  | (refine ⟨by rw [u2_row _ _ (by omega), hVc b hb29]; rfl, ?_, rfl, rfl⟩
     rw [if_neg zh41, if_neg zh67, hVc 1 (by decide), g2]
     obtain ⟨g0, rfl⟩ : ∃ g0, g = g0 + 1 := ⟨g - 1, by omega⟩
     rw [nI_pred]; rfl))
end acts

/-! Walk: 85 (place 85 1, changed 85 2) -/
def buP (P : Nat → Nat → Int32) (i : Nat) : Int32 := P i 2 ||| P i 3
def wkF (P : Nat → Nat → Int32) (pl th : Int32) (A : Nat) : Option Nat := (List.range A).find? (fun i => decide (P i 0 = pl) && decide (buP P i = th))
def wkP (P : Nat → Nat → Int32) (pl th : Int32) (A : Nat) : Bool := (List.range A).any (fun i => decide (P i 0 = pl) && decide (th &&& (buP P i ^^^ -1) = 0))
theorem wkP_s (P : Nat → Nat → Int32) (pl th : Int32) (i : Nat) : wkP P pl th (i + 1) = (wkP P pl th i || (decide (P i 0 = pl) && decide (th &&& (buP P i ^^^ -1) = 0))) := by
  unfold wkP
  rw [List.range_succ, List.any_append]
  simp
/-- what comes of one INPUT's change: whether it may, the place, what is changed -/
def wkR (P : Nat → Nat → Int32) (A : Nat) (pl ch bit : Int32) : Bool × Int32 × Int32 :=
  if ch &&& bit = 0 then
    (match wkF P pl (ch ||| bit) A with
    | some i => (true, P i 1, 0)
    | none => if wkP P pl (ch ||| bit) A then (true, pl, ch ||| bit) else (false, pl, ch))
  else (false, pl, ch)
theorem if01 {b : Bool} : ((if b = true then (1 : Int32) else 0) = 0) ↔ b = false := by cases b <;> simp
section walk
variable {X : xG} {n : Nat} {MI : Nat → Nat → Int32} {ML : Nat → Nat → Int64} {MR : Nat → Nat → Option Nat}
set_option maxRecDepth 100000 in
theorem c_X9_restart (hM : x_Lay MR) : Cf X yX9_restart cX9_restart 1 none 1 [.ref 85] n SH MI ML MR none (u2 (u2 MI 85 1 (MI 1 3)) 85 2 0) ML MR := by
  refine Ct_of (by decide) (Nat.le_of_ble_eq_true rfl) (fun G hG => ?_)
  refine r_aload_n 0 rfl dX9_restart_0 ?_
  refine r_aload_n 0 rfl dX9_restart_1 ?_
  refine r_getr dX9_restart_2 fl_X9_7 rfl (hM _ _ _ rfl) ?_
  refine r_getr dX9_restart_5 fl_X9_13 rfl (hM _ _ _ rfl) ?_
  refine r_geti dX9_restart_8 fl_X9_19 rfl ?_
  refine r_puti dX9_restart_11 fl_X9_25 rfl rfl rfl ?_
  refine r_aload_n 0 rfl dX9_restart_14 ?_
  refine r_iconst (v := 0) rfl dX9_restart_15 ?_
  refine r_puti dX9_restart_16 fl_X9_28 rfl rfl rfl ?_
  exact r_vret hG dX9_restart_19 (⟨rfl, rfl, rfl, rfl⟩)
set_option maxRecDepth 100000 in
theorem c_X9_inputsNow (hM : x_Lay MR) : Cf X yX9_inputsNow cX9_inputsNow 1 (some .int) 2 [.ref 85] n SH MI ML MR (some (.int (pickV (MI 44) 6 (MI 85 1) ^^^ MI 85 2))) MI ML MR := by
  refine Ct_of (by decide) (Nat.le_of_ble_eq_true rfl) (fun G hG => ?_)
  refine r_aload_n 0 rfl dX9_inputsNow_0 ?_
  refine r_getr dX9_inputsNow_1 fl_X9_7 rfl (hM _ _ _ rfl) ?_
  refine r_getr dX9_inputsNow_4 fl_X9_31 rfl (hM _ _ _ rfl) ?_
  refine r_aload_n 0 rfl dX9_inputsNow_7 ?_
  refine r_geti dX9_inputsNow_8 fl_X9_25 rfl ?_
  refine r_Sf [.ref _, .int _] dX9_inputsNow_11 lk_X9_35 mb_X10_pick sc_X10_pick rfl (c_X10_pick (N := 6) rfl (by decide)) rfl (Nat.le_of_ble_eq_true rfl) (rfl) ?_
  refine r_aload_n 0 rfl dX9_inputsNow_14 ?_
  refine r_geti dX9_inputsNow_15 fl_X9_28 rfl ?_
  refine r_ixor dX9_inputsNow_18 ?_
  exact r_iret hG dX9_inputsNow_19 (⟨rfl, rfl, rfl, rfl⟩)
def wkM (MI : Nat → Nat → Int32) (r : Bool × Int32 × Int32) : Nat → Nat → Int32 := u2 (u2 MI 85 1 r.2.1) 85 2 r.2.2
theorem wkM_id (MI : Nat → Nat → Int32) (b : Bool) : wkM MI (b, MI 85 1, MI 85 2) = MI := by
  funext b j
  simp only [wkM, u2]
  grind
set_option maxRecDepth 100000 in
theorem c_X9_changes (hM : x_Lay MR) {A : Nat} (hA : A ≤ 8) (hAr : MI 1 6 = nI A) {x : Int32} {r : Bool × Int32 × Int32} (hr : r = wkR (arP MI) A (MI 85 1) (MI 85 2) (1 <<< (x &&& 31))) : Cf X yX9_changes cX9_changes 8 (some .boolean) 3 [.ref 85, .int x] n SH MI ML MR (some (.int (if r.1 then 1 else 0))) (wkM MI r) ML MR := by
  refine Ct_of (by decide) (Nat.le_of_ble_eq_true rfl) (fun G hG => ?_)
  have hp0 : ∀ i, i < A → partV MI 1 (nI i) 0 = arP MI i 0 := fun i h => arP_nI (j := 0) (by omega) (by decide)
  have hp1 : ∀ i, i < A → partV MI 1 (nI i) 1 = arP MI i 1 := fun i h => arP_nI (j := 1) (by omega) (by decide)
  have hbu : ∀ i, i < A → burstV MI 1 (nI i) = buP (arP MI) i := fun i h => by unfold burstV buP; rw [show partV MI 1 (nI i) 2 = arP MI i 2 from arP_nI (j := 2) (by omega) (by decide), show partV MI 1 (nI i) 3 = arP MI i 3 from arP_nI (j := 3) (by omega) (by decide)]
  have loop : ∀ th bt, bt = (1 : Int32) <<< (x &&& 31) → th = MI 85 2 ||| bt → MI 85 2 &&& bt = 0 → ∀ i, i ≤ A → (∀ k, k < i → (decide (arP MI k 0 = MI 85 1) && decide (buP (arP MI) k = th)) = false) → RW X G RX9 cX9_changes 8 (x_rm 3 0 0) n SH MI ML MR 0 0 37 [(6, .int (nI i)), (5, .int (if wkP (arP MI) (MI 85 1) th i = true then 1 else 0)), (4, .ref 1), (3, .int th), (2, .int bt), (0, .ref 85), (1, .int x)] [] := by
    intro th bt hbt hth hz
    rw [← hbt] at hr
    unfold wkR at hr
    rw [if_pos hz, ← hth] at hr
    refine bwd (fun i hi ih hk => ?_)
    have hnone : i = A → wkF (arP MI) (MI 85 1) th A = none := fun e => by
      unfold wkF
      rw [List.find?_eq_none]
      intro k hk2
      rw [hk k (by rw [e]; exact List.mem_range.mp hk2)]
      decide
    have hsome : i < A → (decide (arP MI i 0 = MI 85 1) && decide (buP (arP MI) i = th)) = true → wkF (arP MI) (MI 85 1) th A = some i := fun hlt hb => by
      unfold wkF
      rw [List.find?_range_eq_some]
      exact ⟨hb, List.mem_range.mpr hlt, fun k hk2 => by rw [hk k hk2]; rfl⟩
    have hstep : (decide (arP MI i 0 = MI 85 1) && decide (buP (arP MI) i = th)) = false → ∀ k, k < i + 1 → (decide (arP MI k 0 = MI 85 1) && decide (buP (arP MI) k = th)) = false := fun hb k hk2 => by
      rcases Nat.lt_or_ge k i with q | q
      · exact hk k q
      · obtain rfl : k = i := by omega
        exact hb
    have hf1 : i = A → wkP (arP MI) (MI 85 1) th i = true → (some (Value.int (if wkP (arP MI) (MI 85 1) th i = true then 1 else 0)) = some (Value.int (if r.1 = true then 1 else 0)) ∧ u2 MI 85 2 th = wkM MI r ∧ ML = ML ∧ MR = MR) := fun e hw => by
      have hr2 : r = (true, MI 85 1, th) := by rw [hr, hnone e]; subst e; simp [hw]
      refine ⟨by rw [hr2, hw], ?_, rfl, rfl⟩
      rw [hr2]
      funext b j
      simp only [wkM, u2]
      grind
    have hf0 : i = A → wkP (arP MI) (MI 85 1) th i = false → (some (Value.int (if wkP (arP MI) (MI 85 1) th i = true then 1 else 0)) = some (Value.int (if r.1 = true then 1 else 0)) ∧ MI = wkM MI r ∧ ML = ML ∧ MR = MR) := fun e hw => by
      have hr2 : r = (false, MI 85 1, MI 85 2) := by rw [hr, hnone e]; subst e; simp [hw]
      exact ⟨by rw [hr2, hw], by rw [hr2, wkM_id], rfl, rfl⟩
    have hb01 : ∀ b : Bool, narrow .boolean (.int (if b = true then 1 else 0)) = .int (if b = true then 1 else 0) := fun b => by cases b <;> rfl
    refine r_iload 0 rfl dX9_changes_37 ?_
    refine r_aload 2 rfl dX9_changes_39 ?_
    refine r_geti dX9_changes_41 fl_X9_41 rfl ?_
    refine r_icmpge (tgt := 123) dX9_changes_44 (by decide) (fun zh44 => ?_) (fun zh44 => ?_)
    · rw [hAr] at zh44
      have hiA : i = A := by have := geL (k := A) (by omega) (by omega) zh44; omega
      refine r_iload 1 rfl dX9_changes_123 ?_
      refine r_ifeq (tgt := 133) dX9_changes_125 (by decide) (fun zh125 => ?_) (fun zh125 => ?_)
      · refine r_iload 1 rfl dX9_changes_133 ?_
        exact r_zret hG dX9_changes_135 (hb01 _) (by first | exact hf0 hiA (if01.mp zh125) | exact hf1 hiA (by cases hw : wkP (arP MI) (MI 85 1) th i with | true => rfl | false => exact absurd (if01.mpr hw) zh125))
      · refine r_aload_n 5 rfl dX9_changes_128 ?_
        refine r_iload_n 3 rfl dX9_changes_129 ?_
        refine r_puti dX9_changes_130 fl_X9_28 rfl rfl rfl ?_
        refine r_iload 1 rfl dX9_changes_133 ?_
        exact r_zret hG dX9_changes_135 (hb01 _) (by first | exact hf0 hiA (if01.mp zh125) | exact hf1 hiA (by cases hw : wkP (arP MI) (MI 85 1) th i with | true => rfl | false => exact absurd (if01.mpr hw) zh125))
    · rw [hAr] at zh44
      have hlt : i < A := ltL (by omega) zh44
      refine r_aload 2 rfl dX9_changes_47 ?_
      refine r_iload 0 rfl dX9_changes_49 ?_
      refine r_iconst (v := 0) rfl dX9_changes_51 ?_
      refine r_Vf [.int _, .int _] dX9_changes_52 lk_X9_44 mb_X5_part in_X5_part se_X5_part rfl (c_X5_part_1 hM) rfl rfl rfl (Nat.le_of_ble_eq_true rfl) (rfl) ?_
      refine r_aload_n 5 rfl dX9_changes_55 ?_
      refine r_geti dX9_changes_56 fl_X9_25 rfl ?_
      refine r_icmpne (tgt := 117) dX9_changes_59 (by decide) (fun zh59 => ?_) (fun zh59 => ?_)
      · try rw [hp0 i hlt] at zh59
        refine r_iinc (v := (nI (i + 1))) (ls2 := [(6, .int (nI (i + 1))), (5, .int (if wkP (arP MI) (MI 85 1) th i = true then 1 else 0)), (4, .ref 1), (3, .int th), (2, .int bt), (0, .ref 85), (1, .int x)]) 0 dX9_changes_117 rfl (x_inc i) (by decide) rfl ?_
        refine r_goto (tgt := 37) dX9_changes_120 (by decide) ?_
        have hq : (if wkP (arP MI) (MI 85 1) th (i + 1) = true then (1 : Int32) else 0) = (if wkP (arP MI) (MI 85 1) th i = true then 1 else 0) := by
          rw [wkP_s]
          simp_all
        have q := ih hlt (hstep (by simp_all))
        rw [hq] at q
        exact r_sub [0, 1, 2, 3, 4, 5, 6] rfl q
      · rw [hp0 i hlt] at zh59
        refine r_aload 2 rfl dX9_changes_62 ?_
        refine r_iload 0 rfl dX9_changes_64 ?_
        refine r_Vf [.int _] dX9_changes_66 lk_X9_48 mb_X5_burstInputs in_X5_burstInputs se_X5_burstInputs rfl (c_X5_burstInputs_1 hM) rfl rfl rfl (Nat.le_of_ble_eq_true rfl) (rfl) ?_
        refine r_nmi (fun zv69 ze69 => ?_)
        refine r_istore (ls2 := [(7, .int zv69), (6, .int (nI i)), (5, .int (if wkP (arP MI) (MI 85 1) th i = true then 1 else 0)), (4, .ref 1), (3, .int th), (2, .int bt), (0, .ref 85), (1, .int x)]) dX9_changes_69 (by decide) rfl ?_
        rw [hbu i hlt] at ze69
        refine r_iload 0 rfl dX9_changes_71 ?_
        refine r_iload_n 4 rfl dX9_changes_73 ?_
        refine r_icmpne (tgt := 96) dX9_changes_74 (by decide) (fun zh74 => ?_) (fun zh74 => ?_)
        · refine r_iload 2 rfl dX9_changes_96 ?_
          refine r_ifne (tgt := 110) dX9_changes_98 (by decide) (fun zh98 => ?_) (fun zh98 => ?_)
          · refine r_iconst (v := 1) rfl dX9_changes_110 ?_
            refine r_goto (tgt := 115) dX9_changes_111 (by decide) ?_
            refine r_istore (ls2 := [(5, .int 1), (7, .int zv69), (6, .int (nI i)), (4, .ref 1), (3, .int th), (2, .int bt), (0, .ref 85), (1, .int x)]) dX9_changes_115 (by decide) rfl ?_
            try rw [hp0 i hlt] at zh59
            refine r_iinc (v := (nI (i + 1))) (ls2 := [(6, .int (nI (i + 1))), (5, .int 1), (7, .int zv69), (4, .ref 1), (3, .int th), (2, .int bt), (0, .ref 85), (1, .int x)]) 2 dX9_changes_117 rfl (x_inc i) (by decide) rfl ?_
            refine r_goto (tgt := 37) dX9_changes_120 (by decide) ?_
            have hq : (if wkP (arP MI) (MI 85 1) th (i + 1) = true then (1 : Int32) else 0) = 1 := by
              rw [wkP_s]
              simp_all
            have q := ih hlt (hstep (by simp_all))
            rw [hq] at q
            exact r_sub [0, 1, 3, 4, 5, 6, 7] rfl q
          · refine r_iload_n 4 rfl dX9_changes_101 ?_
            refine r_iload 0 rfl dX9_changes_102 ?_
            refine r_iconst (v := (-1)) rfl dX9_changes_104 ?_
            refine r_ixor dX9_changes_105 ?_
            refine r_iand dX9_changes_106 ?_
            refine r_ifne (tgt := 114) dX9_changes_107 (by decide) (fun zh107 => ?_) (fun zh107 => ?_)
            · refine r_iconst (v := 0) rfl dX9_changes_114 ?_
              refine r_istore (ls2 := [(5, .int 0), (7, .int zv69), (6, .int (nI i)), (4, .ref 1), (3, .int th), (2, .int bt), (0, .ref 85), (1, .int x)]) dX9_changes_115 (by decide) rfl ?_
              try rw [hp0 i hlt] at zh59
              refine r_iinc (v := (nI (i + 1))) (ls2 := [(6, .int (nI (i + 1))), (5, .int 0), (7, .int zv69), (4, .ref 1), (3, .int th), (2, .int bt), (0, .ref 85), (1, .int x)]) 2 dX9_changes_117 rfl (x_inc i) (by decide) rfl ?_
              refine r_goto (tgt := 37) dX9_changes_120 (by decide) ?_
              have hq : (if wkP (arP MI) (MI 85 1) th (i + 1) = true then (1 : Int32) else 0) = 0 := by
                rw [wkP_s]
                simp_all
              have q := ih hlt (hstep (by simp_all))
              rw [hq] at q
              exact r_sub [0, 1, 3, 4, 5, 6, 7] rfl q
            · refine r_iconst (v := 1) rfl dX9_changes_110 ?_
              refine r_goto (tgt := 115) dX9_changes_111 (by decide) ?_
              refine r_istore (ls2 := [(5, .int 1), (7, .int zv69), (6, .int (nI i)), (4, .ref 1), (3, .int th), (2, .int bt), (0, .ref 85), (1, .int x)]) dX9_changes_115 (by decide) rfl ?_
              try rw [hp0 i hlt] at zh59
              refine r_iinc (v := (nI (i + 1))) (ls2 := [(6, .int (nI (i + 1))), (5, .int 1), (7, .int zv69), (4, .ref 1), (3, .int th), (2, .int bt), (0, .ref 85), (1, .int x)]) 2 dX9_changes_117 rfl (x_inc i) (by decide) rfl ?_
              refine r_goto (tgt := 37) dX9_changes_120 (by decide) ?_
              have hq : (if wkP (arP MI) (MI 85 1) th (i + 1) = true then (1 : Int32) else 0) = 1 := by
                rw [wkP_s]
                simp_all
              have q := ih hlt (hstep (by simp_all))
              rw [hq] at q
              exact r_sub [0, 1, 3, 4, 5, 6, 7] rfl q
        · refine r_aload_n 6 rfl dX9_changes_77 ?_
          refine r_aload 3 rfl dX9_changes_78 ?_
          refine r_iload 1 rfl dX9_changes_80 ?_
          refine r_iconst (v := 1) rfl dX9_changes_82 ?_
          refine r_Vf [.int _, .int _] dX9_changes_83 lk_X9_44 mb_X5_part in_X5_part se_X5_part rfl (c_X5_part_1 hM) rfl rfl rfl (Nat.le_of_ble_eq_true rfl) (rfl) ?_
          refine r_puti dX9_changes_86 fl_X9_25 rfl rfl rfl ?_
          refine r_aload_n 6 rfl dX9_changes_89 ?_
          refine r_iconst (v := 0) rfl dX9_changes_90 ?_
          refine r_puti dX9_changes_91 fl_X9_28 rfl rfl rfl ?_
          refine r_iconst (v := 1) rfl dX9_changes_94 ?_
          exact r_zret hG dX9_changes_95 (rfl) (by rw [hsome hlt (by simp_all)] at hr; exact ⟨by rw [hr]; rfl, by rw [hr, hp1 i hlt]; rfl, rfl, rfl⟩)
  refine r_iconst (v := 1) rfl dX9_changes_0 ?_
  refine r_iload_n 1 rfl dX9_changes_1 ?_
  refine r_ishl dX9_changes_2 ?_
  refine r_nmi (fun zv3 ze3 => ?_)
  refine r_istore_n (ls2 := [(2, .int zv3), (0, .ref 85), (1, .int x)]) dX9_changes_3 (by decide) rfl ?_
  refine r_aload_n 1 rfl dX9_changes_4 ?_
  refine r_geti dX9_changes_5 fl_X9_28 rfl ?_
  refine r_iload_n 0 rfl dX9_changes_8 ?_
  refine r_iand dX9_changes_9 ?_
  refine r_ifeq (tgt := 15) dX9_changes_10 (by decide) (fun zh10 => ?_) (fun zh10 => ?_)
  · refine r_aload_n 1 rfl dX9_changes_15 ?_
    refine r_geti dX9_changes_16 fl_X9_28 rfl ?_
    refine r_iload_n 0 rfl dX9_changes_19 ?_
    refine r_ior dX9_changes_20 ?_
    refine r_nmi (fun zv21 ze21 => ?_)
    refine r_istore_n (ls2 := [(3, .int zv21), (2, .int zv3), (0, .ref 85), (1, .int x)]) dX9_changes_21 (by decide) rfl ?_
    refine r_aload_n 2 rfl dX9_changes_22 ?_
    refine r_getr dX9_changes_23 fl_X9_7 rfl (hM _ _ _ rfl) ?_
    refine r_getr dX9_changes_26 fl_X9_13 rfl (hM _ _ _ rfl) ?_
    refine r_astore (ls2 := [(4, .ref 1), (3, .int zv21), (2, .int zv3), (0, .ref 85), (1, .int x)]) dX9_changes_29 (by decide) rfl ?_
    refine r_iconst (v := 0) rfl dX9_changes_31 ?_
    refine r_istore (ls2 := [(5, .int 0), (4, .ref 1), (3, .int zv21), (2, .int zv3), (0, .ref 85), (1, .int x)]) dX9_changes_32 (by decide) rfl ?_
    refine r_iconst (v := 0) rfl dX9_changes_34 ?_
    refine r_istore (ls2 := [(6, .int 0), (5, .int 0), (4, .ref 1), (3, .int zv21), (2, .int zv3), (0, .ref 85), (1, .int x)]) dX9_changes_35 (by decide) rfl ?_
    exact r_sub [0, 1, 2, 3, 4, 5, 6] rfl (loop zv21 zv3 ze3 ze21 zh10 0 (by omega) (fun k hk => absurd hk (Nat.not_lt_zero k)))
  · refine r_iconst (v := 0) rfl dX9_changes_13 ?_
    exact r_zret hG dX9_changes_14 (rfl) (by rw [ze3] at zh10; have hr2 : r = (false, MI 85 1, MI 85 2) := (by rw [hr]; unfold wkR; rw [if_neg zh10]); exact ⟨by rw [hr2]; rfl, by rw [hr2, wkM_id], rfl, rfl⟩)
end walk

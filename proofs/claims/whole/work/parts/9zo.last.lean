/-! last: it throws; the law catches -/
def nsT : String := "no such state without an arc from it"
theorem lt_str : Cond.stringRef RX10 323 nsT ∈ lw_tbl := by decide +kernel
theorem lt_cl1 : Cond.classLink RX10 321 nsE ∈ x_T := x_inT (by decide +kernel) (by decide +kernel)
theorem lt_clL : Cond.classLink RL 13 nsE ∈ x_T := x_inT (by decide +kernel) (by decide +kernel)
theorem lt_ini : Cond.initialized nsE ∈ x_T := x_inT (by decide +kernel) (by decide +kernel)
theorem lt_cw : Cond.codeWith yL_last cL_last 4 (some .int) [(0, 9, 12, 13)] ∈ x_T := x_inT (by decide +kernel) (by decide +kernel)
theorem lt_iL : Cond.initialized RL ∈ x_T := x_inT (by decide +kernel) (by decide +kernel)
theorem lt_l180 : Cond.methodLink RL 180 yL_last ∈ x_T := x_inT (by decide +kernel) (by decide +kernel)
theorem lt_l7 : Cond.methodLink RL 7 yX10_last ∈ x_T := x_inT (by decide +kernel) (by decide +kernel)
/-- the words that aren't good ones -/
def tw4 : List Cond := [.castable nsE nsE, .declares (Bundle.initS "java/lang/RuntimeException"), .declares (Bundle.initS "java/lang/Exception"), .declares (Bundle.initS Bundle.tN)]
theorem tw_in : ∀ w ∈ tw4, w ∈ lw_tbl := by decide +kernel
theorem tw_all : ((at13 RX10 325).filter vx_no).all (fun w => goodWord w || decide (w ∈ tw4)) = true := by decide +kernel
theorem tw_ot : ∀ w ∈ Cond.classLink RX10 321 nsE :: Cond.initialized nsE :: (at13 RX10 325).filter vx_no, vx_ot w = true := by decide +kernel
theorem tw_gd1 : ∀ w ∈ (Bundle.throwableAtoms ++ Bundle.throwableSAtoms).filter (fun w => vx_no w && goodWord w), w ∈ lw_tbl := by decide +kernel
theorem tw_gd2 : ∀ w ∈ (Bundle.passSAtoms nsE "java/lang/RuntimeException" 13 six13 ++ Bundle.chainSAtoms "java/lang/RuntimeException" ["java/lang/Exception"]).filter (fun w => vx_no w && goodWord w), w ∈ lw_tbl := by decide +kernel
theorem tw_gd3 : ∀ w ∈ (ns_rest RX10 325).filter (fun w => vx_no w && goodWord w), w ∈ lw_tbl := by decide +kernel
theorem tw_T {w : Cond} (h : w ∈ (at13 RX10 325).filter vx_no) : w ∈ x_T ∨ w ∈ tw4 := by
  have h1 := List.all_eq_true.mp tw_all w h
  rw [Bool.or_eq_true, decide_eq_true_eq] at h1
  rcases h1 with hg | h1
  · left
    obtain ⟨hm, hn⟩ := List.mem_filter.mp h
    have hb : (vx_no w && goodWord w) = true := by rw [Bool.and_eq_true]; exact ⟨hn, hg⟩
    refine x_inT ?_ hg
    unfold at13 at hm
    rcases List.mem_append.mp hm with hm | hm
    · rcases List.mem_append.mp hm with hm | hm
      · rcases List.mem_append.mp hm with hm | hm
        · exact tw_gd1 w (List.mem_filter.mpr ⟨hm, hb⟩)
        · exact tw_gd2 w (List.mem_filter.mpr ⟨List.mem_append_left _ hm, hb⟩)
      · exact tw_gd2 w (List.mem_filter.mpr ⟨List.mem_append_right _ hm, hb⟩)
    · exact tw_gd3 w (List.mem_filter.mpr ⟨hm, hb⟩)
  · exact Or.inr h1
/-- what a throw needs of the start -/
def x_Thr (X : xG) : Prop := X.1.stackTraces = false ∧ (∃ a0, ∀ w ∈ tw4, w.before a0 X.2.2.2.1 = true) ∧ vx_Zq Bundle.tN "UNASSIGNED_STACK" Bundle.steD (x_A X) X.2.2.2.1 X.2.2.2.1.heap ∧ vx_Zq Bundle.tN "SUPPRESSED_SENTINEL" Bundle.listD (x_A X) X.2.2.2.1 X.2.2.2.1.heap
theorem tw_at {w : Cond} (hw : w ∈ tw4) {a0 args : Array Value} {s0 s : State} (hal : s0.vm.Alike s.vm) (h : w.before a0 s0 = true) : w.before args s = true := by
  have hs : w.before a0 (s0.setVm s.vm) = true := by
    simp only [tw4, List.mem_cons, List.not_mem_nil, or_false] at hw
    rcases hw with rfl | rfl | rfl | rfl
    · rw [Cond.castable_setVm hal]; exact h
    · rw [Cond.declares_setVm hal]; exact h
    · rw [Cond.declares_setVm hal]; exact h
    · rw [Cond.declares_setVm hal]; exact h
  refine va_tabs (u := s0.setVm s.vm) (U := s) ?_ (show (s0.setVm s.vm).vm = s.vm from rfl) hs
  simp only [tw4, List.mem_cons, List.not_mem_nil, or_false] at hw
  rcases hw with rfl | rfl | rfl | rfl <;> rfl
section RWx
variable {X : xG} {G : xM} {own : String} {cc : ByteArray} {nL : Nat} {R : Room} {n : Nat} {sh : List (Nat × Nat)} {MI : Nat → Nat → Int32} {ML : Nat → Nat → Int64} {MR : Nat → Nat → Option Nat} {cells slots pc : Nat} {ls : List (Nat × Value)} {st : List Value}
theorem r_drop {ls2 : List (Nat × Value)} (h : ∀ q ∈ ls2, q ∈ ls) (k : RW X G own cc nL R n sh MI ML MR cells slots pc ls2 st) : RW X G own cc nL R n sh MI ML MR cells slots pc ls st := by
  obtain ⟨p, e, s, m, args, below, meth, c, rt, mn, Q⟩ := G
  intro O H locs la hP hL hS hl hn
  refine k O H locs la hP hL hS ⟨hl.1, hl.2.1, fun q hq => ?_⟩ hn
  refine hl.2.2 q ?_
  unfold x_ls at hq ⊢
  obtain ⟨q0, h0, rfl⟩ := List.mem_map.mp hq
  exact List.mem_map.mpr ⟨q0, h q0 h0, rfl⟩
def x_GX (X : xG) (G : xM) (mn : String) (Tb : List ExceptionTableEntry → Prop) (Qv : xQ) (XC : String → State → State → Prop) : Prop := match G with
  | (_, _, s, _, args, below, _, c, rt0, mn0, Q) => rt0 = some .int ∧ mn0 = mn ∧ Tb c.exceptionTable.toList ∧ Q = vx_MQ below (x_Q X 0 SH Qv) XC args s 1 6 (x_A X)
theorem r_iretX {x : Int32} {mn : String} {Tb : List ExceptionTableEntry → Prop} {Qv : xQ} {XC : String → State → State → Prop} (hG : x_GX X G mn Tb Qv XC) (hd : decode cc pc = .ok (.ireturn, 1)) (hc : cells ≤ 1 ∧ slots ≤ 6) (hq : Qv (some (.int x)) MI ML MR) : RW X G own cc nL R 0 SH MI ML MR cells slots pc ls [.int x] := by
  obtain ⟨p, e, s, m, args, below, meth, c, rt, mn, Q⟩ := G
  intro O H locs la hP hL hS hl hn
  obtain ⟨g1, g2, g3, g4⟩ := hG
  subst g4; subst g1
  refine W.widen (k := 1) (n := 6) hc.1 hc.2 (vx_ret ?_)
  exact W.iret O.1 O.2.1 O.2.2.2.2.2.2.1 (fun t ht hW => ⟨⟨some (.int x), MI, ML, MR, rfl, hq, by rw [ht]; exact hP, hL, fun q => absurd rfl q, x_Env_moved O.2.2.2.2.2.1 hS ht hW⟩, hS.F ht⟩) hS.2.2 hd O.2.2.2.2.2.2.2.1
/-- what is left where last throws -/
def XCl (X : xG) (MI : Nat → Nat → Int32) (ML : Nat → Nat → Int64) (MR : Nat → Nat → Option Nat) (z : Option Nat) : String → State → State → Prop := fun E st t => z = none ∧ E = nsE ∧ va_P X.2.1 vwCl (x_ws X SH MI ML MR) t.heap ∧ va_F (x_A X) st t
theorem r_throwX {Qv : xQ} {z : Option Nat} (hT : x_Thr X) (hG : x_GX X G "last" (fun T => ∀ x ∈ T, False) Qv (XCl X MI ML MR z)) (hz : z = none) (hR : R = x_rm 10 1 6) : RW X G RX10 cX10_last 4 R 0 SH MI ML MR 0 0 41 ls [] := by
  subst hR
  obtain ⟨p, e, s, m, args, below, meth, c, rt, mn, Q⟩ := G
  intro O H locs la hP hL hS hl hn
  obtain ⟨g1, g2, g3, g4⟩ := hG
  subst g4
  obtain ⟨t1, ⟨a0, t2⟩, t3, t4⟩ := hT
  have hts := O.2.2.2.2.1
  have hE := O.2.2.2.2.2.1
  have hal := hE.2.2.1
  have hq : ∀ a : Nat, a < X.2.2.2.1.heap.size → ¬ x_A X a → s.heap[a]? = X.2.2.2.1.heap[a]? := fun a ha _ => hE.2.2.2.2.1 a ha
  refine x_throw13 (A := x_A X) (text := nsT) (sa := X.2.2.2.2 (x_sid nsT)) (ik := 321) (is := 323) (ic := 325) O.1 O.2.1 t1 O.2.2.2.1 (hts _ lt_cl1) (hts _ lt_ini) (hE.2.2.2.2.2 _ _ _ lt_str) (fun w hw => ?_) tw_ot ((t3.moved hal).kept hq) ((t4.moved hal).kept hq) hS (hl.1.trans O.2.2.1.symm) dX10_last_41 dX10_last_44 dX10_last_45 dX10_last_48 dX10_last_51 (fun x hx => (g3 x hx).elim) (by decide) (Nat.le_of_ble_eq_true rfl) (by decide) (by decide) O.2.2.2.2.2.2.2.1 (fun t ht1 ht2 ht3 => ⟨hz, rfl, ?_, ?_⟩) hS.2.2 (by decide) (by decide)
  · rcases tw_T hw with h | h
    · exact hts w h
    · exact tw_at h hal (t2 w h)
  · refine hP.kept (fun k q hk => ?_)
    exact ht3 q.1 (vx_lt hP hk)
  · refine ⟨Nat.le_trans hS.1 ht2, fun q h1 h2 => ?_⟩
    rw [ht3 q (Nat.lt_of_lt_of_le h1 hS.1)]
    exact hS.2.1 q h1 h2
theorem CtX_of {y : MethodName} {d : Nat} {as : List Value} {Qv : xQ} {XC : String → State → State → Prop} (hy : plainName y.cls = true) (hln : (lg_sl as).length ≤ nL) (body : ∀ G : xM, x_GX X G y.name (fun T => ∀ x ∈ T, False) Qv XC → RW X G y.cls cc nL (x_rm d 1 6) 0 SH MI ML MR 0 0 0 (lv_args 0 as) []) : vx_Met X.1 y (.code y cc nL (some .int) :: x_T) (x_rm d 1 6) (va_Pc (as.map (x_rv X)) (x_Wd X 0 SH MI ML MR)) (x_Q X 0 SH Qv) XC 1 6 (x_A X) := by
  refine vx_ofW (cc := cc) (maxL := nL) (ret := some .int) hy rfl ?_
  intro p e s m args below meth c s₁ B hml htab hv
  obtain ⟨rfl, hP, hL, hn, hE⟩ := hv
  have hts := atoms_spec (ws := .code y cc nL (some .int) :: x_T) B.pre
  have hown : s.vm.findClass y.cls = some m.cls := findClass_of_methodNamed B.named
  have hname : meth.name = y.name := (name_of_methodNamed B.named B.method).1
  have hl := lv_entry (as.map (x_rv X)) (n := nL) (by rw [x_sl]; exact hln)
  rw [lg_entry_eq]
  generalize (lg_sl (as.map (x_rv X)) ++ List.replicate (nL - (lg_sl (as.map (x_rv X))).length) Slot.unset).toArray = la at hl ⊢
  rw [x_args] at hl
  exact body (p, e, s, m, _, below, meth, c, some .int, y.name, _) ⟨rfl, rfl, htab, rfl⟩ ⟨B.exec, B.bytes, hml, hown, fun w hw => hts w (List.mem_cons_of_mem _ hw), hE, B.returns, B.notSynchronized, hname⟩ s.heap [] la hP hL va_S.rf hl hn
theorem CtH_of {y : MethodName} {d : Nat} {as : List Value} {Qv : xQ} {XC : String → State → State → Prop} {hh : List (Nat × Nat × Nat × Nat)} (hy : plainName y.cls = true) (hln : (lg_sl as).length ≤ nL) (body : ∀ G : xM, x_GX X G y.name (fun T => T = tableOf hh) Qv XC → RW X G y.cls cc nL (x_rm d 1 6) 0 SH MI ML MR 0 0 0 (lv_args 0 as) []) : vx_Met X.1 y (.codeWith y cc nL (some .int) hh :: x_T) (x_rm d 1 6) (va_Pc (as.map (x_rv X)) (x_Wd X 0 SH MI ML MR)) (x_Q X 0 SH Qv) XC 1 6 (x_A X) := by
  refine vx_ofWH (cc := cc) (maxL := nL) (ret := some .int) hy rfl ?_
  intro p e s m args below meth c s₁ B hml hv
  obtain ⟨rfl, hP, hL, hn, hE⟩ := hv
  have hts := atoms_spec (ws := .codeWith y cc nL (some .int) hh :: x_T) B.pre
  have htab := vx_table (x := y) B (hts _ List.mem_cons_self)
  have hown : s.vm.findClass y.cls = some m.cls := findClass_of_methodNamed B.named
  have hname : meth.name = y.name := (name_of_methodNamed B.named B.method).1
  have hl := lv_entry (as.map (x_rv X)) (n := nL) (by rw [x_sl]; exact hln)
  rw [lg_entry_eq]
  generalize (lg_sl (as.map (x_rv X)) ++ List.replicate (nL - (lg_sl (as.map (x_rv X))).length) Slot.unset).toArray = la at hl ⊢
  rw [x_args] at hl
  exact body (p, e, s, m, _, below, meth, c, some .int, y.name, _) ⟨rfl, rfl, htab, rfl⟩ ⟨B.exec, B.bytes, hml, hown, fun w hw => hts w (List.mem_cons_of_mem _ hw), hE, B.returns, B.notSynchronized, hname⟩ s.heap [] la hP hL va_S.rf hl hn
/-- the class's last: the state, or the throw -/
def lstQ (MI : Nat → Nat → Int32) (ML : Nat → Nat → Int64) (MR : Nat → Nat → Option Nat) (z : Option Nat) : xQ := fun r A B C => ∃ s, z = some s ∧ r = some (.int (nI s)) ∧ A = MI ∧ B = ML ∧ C = MR
theorem c_X10_last (hT : x_Thr X) (hM : x_Lay MR) {A S : Nat} (hA : A ≤ 8) (hAr : MI 1 6 = nI A) (hS : S ≤ 6) (hSr : MI 1 1 = nI S) {x : Int32} {z : Option Nat} (hz : z = lstC (fun s => leavesV MI 1 A (nI s)) S 0 x) : vx_Met X.1 yX10_last (.code yX10_last cX10_last 4 (some .int) :: x_T) (x_rm 10 1 6) (va_Pc ([Value.ref 0, .int x].map (x_rv X)) (x_Wd X 0 SH MI ML MR)) (x_Q X 0 SH (lstQ MI ML MR z)) (XCl X MI ML MR z) 1 6 (x_A X) := by
  refine CtX_of (by decide) (Nat.le_of_ble_eq_true rfl) (fun G hG => ?_)
  have loop : ∀ k i left, i + k = S → lstC (fun s => leavesV MI 1 A (nI s)) k i left = z → RW X G RX10 cX10_last 4 (x_rm 10 1 6) 0 SH MI ML MR 0 0 4 [(3, .int (nI i)), (2, .int left), (0, .ref 0), (1, .int x)] [] := by
    intro k
    induction k with
    | zero =>
      intro i left hi hl
      refine r_iload_n 0 rfl dX10_last_4 ?_
      refine r_aload_n 2 rfl dX10_last_5 ?_
      refine r_getr dX10_last_6 fl_X10_10 rfl (hM _ _ _ rfl) ?_
      refine r_geti dX10_last_9 fl_X10_133 rfl ?_
      refine r_icmpge (tgt := 41) dX10_last_12 (by decide) (fun _ => ?_) (fun q => absurd ?_ q)
      · exact r_throwX hT hG (by rw [← hl]; rfl) rfl
      · rw [hSr]
        exact nI_le (by omega) (by omega)
    | succ k ih =>
      intro i left hi hl
      rw [lstC] at hl
      refine r_iload_n 0 rfl dX10_last_4 ?_
      refine r_aload_n 2 rfl dX10_last_5 ?_
      refine r_getr dX10_last_6 fl_X10_10 rfl (hM _ _ _ rfl) ?_
      refine r_geti dX10_last_9 fl_X10_133 rfl ?_
      refine r_icmpge (tgt := 41) dX10_last_12 (by decide) (fun q => absurd q ?_) (fun _ => ?_)
      · rw [hSr]
        exact nI_ge (by omega) (by omega)
      refine r_aload_n 2 rfl dX10_last_15 ?_
      refine r_getr dX10_last_16 fl_X10_10 rfl (hM _ _ _ rfl) ?_
      refine r_iload_n 0 rfl dX10_last_19 ?_
      refine r_Vf [.int _] dX10_last_20 lk_X10_318 mb_X5_leaves in_X5_leaves se_X5_leaves rfl (c_X5_leaves_1 hM hA hAr) rfl rfl rfl (Nat.le_of_ble_eq_true rfl) (rfl) ?_
      refine r_ifne (tgt := 35) dX10_last_23 (by decide) (fun q => ?_) (fun q => ?_)
      · have hlf : leavesV MI 1 A (nI i) = true := Classical.byContradiction fun y => q (if_neg y)
        rw [if_pos hlf] at hl
        refine r_iinc (v := nI (i + 1)) (ls2 := [(3, .int (nI (i + 1))), (2, .int left), (0, .ref 0), (1, .int x)]) 0 dX10_last_35 rfl (x_inc i) (by decide) rfl ?_
        exact r_goto (tgt := 4) dX10_last_38 (by decide) (ih (i + 1) left (by omega) hl)
      · have hlf : ¬ leavesV MI 1 A (nI i) = true := fun y => by
          rw [if_pos y] at q
          exact absurd q (by decide)
        rw [if_neg hlf] at hl
        refine r_iload_n 1 rfl dX10_last_26 ?_
        refine r_ifne (tgt := 32) dX10_last_27 (by decide) (fun q2 => ?_) (fun q2 => ?_)
        · rw [if_neg q2] at hl
          refine r_iinc (v := left + Int32.ofInt (-1)) (ls2 := [(2, .int (left + Int32.ofInt (-1))), (3, .int (nI i)), (0, .ref 0), (1, .int x)]) 1 dX10_last_32 rfl rfl (by decide) rfl ?_
          refine r_iinc (v := nI (i + 1)) (ls2 := [(3, .int (nI (i + 1))), (2, .int (left + Int32.ofInt (-1))), (0, .ref 0), (1, .int x)]) 1 dX10_last_35 rfl (x_inc i) (by decide) rfl ?_
          exact r_goto (tgt := 4) dX10_last_38 (by decide) (ih (i + 1) _ (by omega) hl)
        · rw [if_pos q2] at hl
          refine r_iload_n 0 rfl dX10_last_30 ?_
          exact r_iretX hG dX10_last_31 ⟨by decide, by decide⟩ ⟨i, hl.symm, rfl, rfl, rfl, rfl⟩
  refine r_iload_n 1 rfl dX10_last_0 ?_
  refine r_istore_n (ls2 := [(2, .int x), (0, .ref 0), (1, .int x)]) dX10_last_1 (by decide) rfl ?_
  refine r_iconst (v := 0) rfl dX10_last_2 ?_
  refine r_istore_n (ls2 := [(3, .int 0), (2, .int x), (0, .ref 0), (1, .int x)]) dX10_last_3 (by decide) rfl ?_
  exact loop S 0 x (by omega) hz.symm
end RWx

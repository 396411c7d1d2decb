/-! the law's loop, and the end -/
theorem and63 (x : Int32) : ∃ n, n < 64 ∧ x &&& 63 = nI n := by
  refine ⟨(x &&& 63).toBitVec.toNat, ?_, ?_⟩
  · have e : (x &&& 63).toBitVec.toNat = x.toBitVec.toNat &&& 63 := by
      rw [Int32.toBitVec_and, BitVec.toNat_and]
      rfl
    rw [e]
    exact Nat.lt_of_le_of_lt Nat.and_le_right (by decide)
  · unfold nI
    apply Int32.toBitVec_inj.mp
    rw [Int32.toBitVec_ofNat']
    exact BitVec.eq_of_toNat_eq (by simp)
theorem sub6 {i L : Nat} (hi : i < 2 ^ 20) (hL : L < 2 ^ 20) : (nI L - 6 < nI i) ↔ L < i + 6 := by
  by_cases h : L < 6
  · have h1 : nI L - 6 < 0 := by
      have : ∀ L, L < 6 → nI L - 6 < 0 := by decide +kernel
      exact this L h
    have h2 : (0 : Int32) ≤ nI i := nI_pos' (by omega)
    exact ⟨fun _ => by omega, fun _ => Int32.lt_of_lt_of_le h1 h2⟩
  · have e : nI L - 6 = nI (L - 6) := by
      obtain ⟨k, rfl⟩ : ∃ k, L = k + 6 := ⟨L - 6, by omega⟩
      rw [show k + 6 - 6 = k by omega, ← nI_add k 6]
      have : nI 6 = 6 := rfl
      rw [this]
      grind
    rw [e, nI_ltI (by omega) (by omega)]
    omega
section loop
variable {X : xG} {G : xM} {L : Nat} {xs : Nat → Int32}
theorem law_loop (E : lwE X) (hT : x_Thr X) (hX : x_Sc X G L xs) (hL : L ≤ 3072) (kend : ∀ MI ML MR cells slots i, cells ≤ 1000 → slots ≤ 30000 → RW X G RL cL_law 7 room_1 0 SH MI ML MR cells slots 1523 [(4, .int (nI i)), (3, .ref 154), (2, .ref 124), (1, .ref 0), (0, .ref 1300)] []) : ∀ m i cells slots MI ML MR, L ≤ i + 6 * m → i ≤ L + 6 → cells + m ≤ 900 → slots + 6 * m ≤ 25000 → InvE MI ML MR → RW X G RL cL_law 7 room_1 0 SH MI ML MR cells slots 23 [(4, .int (nI i)), (3, .ref 154), (2, .ref 124), (1, .ref 0), (0, .ref 1300)] [] := by
  intro m
  induction m with
  | zero =>
    intro i cells slots MI ML MR h1 h2 h3 h4 hI
    refine r_iload 0 rfl dL_law_23 ?_
    refine r_aload_n 4 rfl dL_law_25 ?_
    refine r_scl hX dL_law_26 ?_
    refine r_bipush (v := 6) rfl dL_law_27 ?_
    refine r_isub dL_law_29 ?_
    refine r_icmpgt (tgt := 1523) dL_law_30 (by decide) (fun _ => kend MI ML MR cells slots i (by omega) (by omega)) (fun q => absurd ((sub6 (by omega) (by omega)).mpr (by omega)) q)
  | succ m ih =>
    intro i cells slots MI ML MR h1 h2 h3 h4 hI
    refine r_iload 0 rfl dL_law_23 ?_
    refine r_aload_n 4 rfl dL_law_25 ?_
    refine r_scl hX dL_law_26 ?_
    refine r_bipush (v := 6) rfl dL_law_27 ?_
    refine r_isub dL_law_29 ?_
    refine r_icmpgt (tgt := 1523) dL_law_30 (by decide) (fun _ => kend MI ML MR cells slots i (by omega) (by omega)) (fun q => ?_)
    have hi : i + 6 ≤ L := Nat.le_of_not_lt (fun z => q ((sub6 (i := i) (L := L) (by omega) (by omega)).mpr z))
    have k1 : ∀ MI2 ML2 MR2, InvE MI2 ML2 MR2 → RW X G RL cL_law 7 room_1 0 SH MI2 ML2 MR2 cells slots 1517 [(4, .int (nI i)), (3, .ref 154), (2, .ref 124), (1, .ref 0), (0, .ref 1300)] [] := fun MI2 ML2 MR2 hI2 => by
      refine r_iinc (v := nI (i + 6)) (ls2 := [(4, .int (nI (i + 6))), (3, .ref 154), (2, .ref 124), (1, .ref 0), (0, .ref 1300)]) 0 dL_law_1517 rfl (by rw [← nI_add]; rfl) (by decide) rfl ?_
      exact r_goto (tgt := 23) dL_law_1520 (by decide) (ih (i + 6) cells slots MI2 ML2 MR2 (by omega) (by omega) (by omega) (by omega) hI2)
    have k2 : ∀ MI2 ML2 MR2, InvE MI2 ML2 MR2 → RW X G RL cL_law 7 room_1 0 SH MI2 ML2 MR2 (cells + 1) (slots + 6) 1517 [(4, .int (nI i)), (3, .ref 154), (2, .ref 124), (1, .ref 0), (0, .ref 1300)] [] := fun MI2 ML2 MR2 hI2 => by
      refine r_iinc (v := nI (i + 6)) (ls2 := [(4, .int (nI (i + 6))), (3, .ref 154), (2, .ref 124), (1, .ref 0), (0, .ref 1300)]) 0 dL_law_1517 rfl (by rw [← nI_add]; rfl) (by decide) rfl ?_
      exact r_goto (tgt := 23) dL_law_1520 (by decide) (ih (i + 6) (cells + 1) (slots + 6) MI2 ML2 MR2 (by omega) (by omega) (by omega) (by omega) hI2)
    refine r_aload_n 4 rfl dL_law_33 ?_
    refine r_iload 0 rfl dL_law_34 ?_
    refine r_scr hX dL_law_36 (vp_in_nI (by omega) (by omega)) ?_
    refine r_bipush (v := 63) rfl dL_law_37 ?_
    refine r_iand dL_law_39 ?_
    obtain ⟨n, hn, en⟩ := and63 (xs (nI i).toNatClampNeg)
    rw [en]
    by_cases h42 : n < 42
    · rcases (show n = 0 ∨ n = 1 ∨ n = 2 ∨ n = 3 ∨ n = 4 ∨ n = 5 ∨ n = 6 ∨ n = 7 ∨ n = 8 ∨ n = 9 ∨ n = 10 ∨ n = 11 ∨ n = 12 ∨ n = 13 ∨ n = 14 ∨ n = 15 ∨ n = 16 ∨ n = 17 ∨ n = 18 ∨ n = 19 ∨ n = 20 ∨ n = 21 ∨ n = 22 ∨ n = 23 ∨ n = 24 ∨ n = 25 ∨ n = 26 ∨ n = 27 ∨ n = 28 ∨ n = 29 ∨ n = 30 ∨ n = 31 ∨ n = 32 ∨ n = 33 ∨ n = 34 ∨ n = 35 ∨ n = 36 ∨ n = 37 ∨ n = 38 ∨ n = 39 ∨ n = 40 ∨ n = 41 by omega) with rfl | rfl | rfl | rfl | rfl | rfl | rfl | rfl | rfl | rfl | rfl | rfl | rfl | rfl | rfl | rfl | rfl | rfl | rfl | rfl | rfl | rfl | rfl | rfl | rfl | rfl | rfl | rfl | rfl | rfl | rfl | rfl | rfl | rfl | rfl | rfl | rfl | rfl | rfl | rfl | rfl | rfl
      · exact r_tabIn (x := nI 0) (off := 184) (tgt := 224) dL_law_40 (by decide +kernel) (by decide +kernel) (by decide +kernel) (by decide) (lc_feed E hX hi hL hI ⟨by omega, by omega⟩ k1)
      · exact r_tabIn (x := nI 1) (off := 257) (tgt := 297) dL_law_40 (by decide +kernel) (by decide +kernel) (by decide +kernel) (by decide) (lc_machine E hX hi hL hI ⟨by omega, by omega⟩ k1)
      · exact r_tabIn (x := nI 2) (off := 282) (tgt := 322) dL_law_40 (by decide +kernel) (by decide +kernel) (by decide +kernel) (by decide) (lc_fault E hX hi hL hI ⟨by omega, by omega⟩ k1)
      · exact r_tabIn (x := nI 3) (off := 295) (tgt := 335) dL_law_40 (by decide +kernel) (by decide +kernel) (by decide +kernel) (by decide) (lc_where E hX hi hL hI ⟨by omega, by omega⟩ k1)
      · exact r_tabIn (x := nI 4) (off := 308) (tgt := 348) dL_law_40 (by decide +kernel) (by decide +kernel) (by decide +kernel) (by decide) (lc_bad E hX hi hL hI ⟨by omega, by omega⟩ k1)
      · exact r_tabIn (x := nI 5) (off := 321) (tgt := 361) dL_law_40 (by decide +kernel) (by decide +kernel) (by decide +kernel) (by decide) (lc_badAt E hX hi hL hI ⟨by omega, by omega⟩ k1)
      · exact r_tabIn (x := nI 6) (off := 334) (tgt := 374) dL_law_40 (by decide +kernel) (by decide +kernel) (by decide +kernel) (by decide) (lc_state E hX hi hL hI ⟨by omega, by omega⟩ k1)
      · exact r_tabIn (x := nI 7) (off := 371) (tgt := 411) dL_law_40 (by decide +kernel) (by decide +kernel) (by decide +kernel) (by decide) (lc_arc E hX hi hL hI ⟨by omega, by omega⟩ k1)
      · exact r_tabIn (x := nI 8) (off := 408) (tgt := 448) dL_law_40 (by decide +kernel) (by decide +kernel) (by decide +kernel) (by decide) (lc_gate E hX hi hL hI ⟨by omega, by omega⟩ k1)
      · exact r_tabIn (x := nI 9) (off := 445) (tgt := 485) dL_law_40 (by decide +kernel) (by decide +kernel) (by decide +kernel) (by decide) (lc_at E hX hi hL hI ⟨by omega, by omega⟩ k1)
      · exact r_tabIn (x := nI 10) (off := 482) (tgt := 522) dL_law_40 (by decide +kernel) (by decide +kernel) (by decide +kernel) (by decide) (lc_points E hX hi hL hI ⟨by omega, by omega⟩ k1)
      · exact r_tabIn (x := nI 11) (off := 519) (tgt := 559) dL_law_40 (by decide +kernel) (by decide +kernel) (by decide +kernel) (by decide) (lc_required E hX hi hL hI ⟨by omega, by omega⟩ k1)
      · exact r_tabIn (x := nI 12) (off := 544) (tgt := 584) dL_law_40 (by decide +kernel) (by decide +kernel) (by decide +kernel) (by decide) (lc_requiredCube E hX hi hL hI ⟨by omega, by omega⟩ k1)
      · exact r_tabIn (x := nI 13) (off := 581) (tgt := 621) dL_law_40 (by decide +kernel) (by decide +kernel) (by decide +kernel) (by decide) (lc_falls E hX hi hL hI ⟨by omega, by omega⟩ k1)
      · exact r_tabIn (x := nI 14) (off := 606) (tgt := 646) dL_law_40 (by decide +kernel) (by decide +kernel) (by decide +kernel) (by decide) (lc_safe E hX hi hL hI ⟨by omega, by omega⟩ k1)
      · exact r_tabIn (x := nI 15) (off := 643) (tgt := 683) dL_law_40 (by decide +kernel) (by decide +kernel) (by decide +kernel) (by decide) (lc_primes E hX hi hL hI ⟨by omega, by omega⟩ k1)
      · exact r_tabIn (x := nI 16) (off := 668) (tgt := 708) dL_law_40 (by decide +kernel) (by decide +kernel) (by decide +kernel) (by decide) (lc_prime E hX hi hL hI ⟨by omega, by omega⟩ k1)
      · exact r_tabIn (x := nI 17) (off := 705) (tgt := 745) dL_law_40 (by decide +kernel) (by decide +kernel) (by decide +kernel) (by decide) (lc_needed E hX hi hL hI ⟨by omega, by omega⟩ k1)
      · exact r_tabIn (x := nI 18) (off := 730) (tgt := 770) dL_law_40 (by decide +kernel) (by decide +kernel) (by decide +kernel) (by decide) (lc_lacking E hX hi hL hI ⟨by omega, by omega⟩ k1)
      · exact r_tabIn (x := nI 19) (off := 755) (tgt := 795) dL_law_40 (by decide +kernel) (by decide +kernel) (by decide +kernel) (by decide) (lc_fewest E hX hi hL hI ⟨by omega, by omega⟩ k1)
      · exact r_tabIn (x := nI 20) (off := 780) (tgt := 820) dL_law_40 (by decide +kernel) (by decide +kernel) (by decide +kernel) (by decide) (lc_chosen E hX hi hL hI ⟨by omega, by omega⟩ k1)
      · exact r_tabIn (x := nI 21) (off := 817) (tgt := 857) dL_law_40 (by decide +kernel) (by decide +kernel) (by decide +kernel) (by decide) (lc_literals E hX hi hL hI ⟨by omega, by omega⟩ k1)
      · exact r_tabIn (x := nI 22) (off := 842) (tgt := 882) dL_law_40 (by decide +kernel) (by decide +kernel) (by decide +kernel) (by decide) (lc_formula E hX hi hL hI ⟨by omega, by omega⟩ k1)
      · exact r_tabIn (x := nI 23) (off := 867) (tgt := 907) dL_law_40 (by decide +kernel) (by decide +kernel) (by decide +kernel) (by decide) (lc_sign E hX hi hL hI ⟨by omega, by omega⟩ k1)
      · exact r_tabIn (x := nI 24) (off := 904) (tgt := 944) dL_law_40 (by decide +kernel) (by decide +kernel) (by decide +kernel) (by decide) (lc_harm E hX hi hL hI ⟨by omega, by omega⟩ k1)
      · exact r_tabIn (x := nI 25) (off := 941) (tgt := 981) dL_law_40 (by decide +kernel) (by decide +kernel) (by decide +kernel) (by decide) (lc_glitch E hX hi hL hI ⟨by omega, by omega⟩ k1)
      · exact r_tabIn (x := nI 26) (off := 966) (tgt := 1006) dL_law_40 (by decide +kernel) (by decide +kernel) (by decide +kernel) (by decide) (lc_run E hX hi hL hI ⟨by omega, by omega⟩ k1)
      · exact r_tabIn (x := nI 27) (off := 1031) (tgt := 1071) dL_law_40 (by decide +kernel) (by decide +kernel) (by decide +kernel) (by decide) (lc_runBurst E hX hi hL hI ⟨by omega, by omega⟩ k1)
      · exact r_tabIn (x := nI 28) (off := 1096) (tgt := 1136) dL_law_40 (by decide +kernel) (by decide +kernel) (by decide +kernel) (by decide) (lc_settles E hX hi hL hI ⟨by omega, by omega⟩ k1)
      · exact r_tabIn (x := nI 29) (off := 1121) (tgt := 1161) dL_law_40 (by decide +kernel) (by decide +kernel) (by decide +kernel) (by decide) (lc_settled E hX hi hL hI ⟨by omega, by omega⟩ k1)
      · exact r_tabIn (x := nI 30) (off := 1146) (tgt := 1186) dL_law_40 (by decide +kernel) (by decide +kernel) (by decide +kernel) (by decide) (lc_push E hX hi hL hI ⟨by omega, by omega⟩ k1)
      · exact r_tabIn (x := nI 31) (off := 1171) (tgt := 1211) dL_law_40 (by decide +kernel) (by decide +kernel) (by decide +kernel) (by decide) (lc_walk E hX hi hL hI ⟨by omega, by omega⟩ k1)
      · exact r_tabIn (x := nI 32) (off := 1196) (tgt := 1236) dL_law_40 (by decide +kernel) (by decide +kernel) (by decide +kernel) (by decide) (lc_shown E hX hi hL hI ⟨by omega, by omega⟩ k1)
      · exact r_tabIn (x := nI 33) (off := 1209) (tgt := 1249) dL_law_40 (by decide +kernel) (by decide +kernel) (by decide +kernel) (by decide) (lc_codings E hX hi hL hI ⟨by omega, by omega⟩ k1)
      · exact r_tabIn (x := nI 34) (off := 1234) (tgt := 1274) dL_law_40 (by decide +kernel) (by decide +kernel) (by decide +kernel) (by decide) (lc_coding E hX hi hL hI ⟨by omega, by omega⟩ k1)
      · exact r_tabIn (x := nI 35) (off := 1271) (tgt := 1311) dL_law_40 (by decide +kernel) (by decide +kernel) (by decide +kernel) (by decide) (lc_recode E hX hi hL hI ⟨by omega, by omega⟩ k1)
      · exact r_tabIn (x := nI 36) (off := 1308) (tgt := 1348) dL_law_40 (by decide +kernel) (by decide +kernel) (by decide +kernel) (by decide) (lc_strike E hX hi hL hI ⟨by omega, by omega⟩ k1)
      · exact r_tabIn (x := nI 37) (off := 1333) (tgt := 1373) dL_law_40 (by decide +kernel) (by decide +kernel) (by decide +kernel) (by decide) (lc_add E hX hi hL hI ⟨by omega, by omega⟩ k1)
      · exact r_tabIn (x := nI 38) (off := 1370) (tgt := 1410) dL_law_40 (by decide +kernel) (by decide +kernel) (by decide +kernel) (by decide) (lc_undo E hX hi hL hI ⟨by omega, by omega⟩ k1)
      · exact r_tabIn (x := nI 39) (off := 1383) (tgt := 1423) dL_law_40 (by decide +kernel) (by decide +kernel) (by decide +kernel) (by decide) (lc_last hT hX hi hL hI ⟨by omega, by omega⟩ k2)
      · exact r_tabIn (x := nI 40) (off := 1439) (tgt := 1479) dL_law_40 (by decide +kernel) (by decide +kernel) (by decide +kernel) (by decide) (lc_size E hX hi hL hI ⟨by omega, by omega⟩ k1)
      · exact r_tabIn (x := nI 41) (off := 1464) (tgt := 1504) dL_law_40 (by decide +kernel) (by decide +kernel) (by decide +kernel) (by decide) (lc_trouble E hX hi hL hI ⟨by omega, by omega⟩ k1)
    · refine r_tabOut (tgt := 1517) dL_law_40 (Or.inr ?_) (by decide) (k1 MI ML MR hI)
      rw [nI_toInt (by omega)]
      omega
end loop
theorem n_uns : Cond.isRef (.static Bundle.tN "UNASSIGNED_STACK" Bundle.steD) ∈ nF := by decide +kernel
theorem n_sen : Cond.isRef (.static Bundle.tN "SUPPRESSED_SENTINEL" Bundle.listD) ∈ nF := by decide +kernel
theorem l_uns : Cond.laysStatic Bundle.tN "UNASSIGNED_STACK" Bundle.steD ∈ lw_tbl := by decide +kernel
theorem l_sen : Cond.laysStatic Bundle.tN "SUPPRESSED_SENTINEL" Bundle.listD ∈ lw_tbl := by decide +kernel
theorem l_thr : Cond.initialized Bundle.tN ∈ lw_tbl := by decide +kernel
def R_law : String := "BurstDeskLaw"
def lw_P (b : Addr) (xs : List Int32) (args : Array Value) (s : State) : Prop := args = #[.ref b] ∧ s.IntsAt b xs ∧ xs.length ≤ 3072 ∧ (Jvm.Cond.and given_1 narrow_1).before args s = true
def lw_Q (_ : Array Value) (s : State) (o : Outcome) (t : State) : Prop := o = .returned (some (.int 1)) ∧ Framed s o t [] 601024 7293034
def lw_Z (below : List Frame) (a : Array Value) (s : State) : State → Prop := fun t => ∃ o, t.status = .running ∧ Ended t below o ∧ lw_Q a s o t
/-- the law's own end, with 1 on the stack, nothing written that was there before, its room as the claim has it -/
theorem lw_ret {p : Program} {l : Launch} {e : Env} {s : State} {m : MethodId} {below : List Frame} {meth : Method} {c : Code} {b : Nat} (hx : p.tables.exec = Jvm.exec) (hb : c.code = code) (hr : meth.sig.returnType = ret) (hlocks : meth.locks = false) {pc : Nat} {H : Heap} {ls : Array Slot} (hdg : decode code pc = .ok (.ireturn, 1)) : W p l e room_1 s m #[Value.ref b] below meth c H [] 601024 7293034 (lw_Z below #[Value.ref b] s) (F0 m pc ls [.int 1]) := by
  intro T hT X
  obtain ⟨fs, hret, hrun, hended, hW, hframe⟩ := X.leave (v := some (.int 1)) (hlocks := hlocks) (fun h => by rw [hr] at h; cases h)
  have hmeth' : T.vm.method? m = some meth := X.method'
  refine ⟨T.setFrames fs, ?_, .returned (some (.int 1)), hrun, hended, rfl, ⟨_, rfl⟩, hW, hframe⟩
  jvm_step X.here [X.here.top, hx, hb, hdg, hmeth', hr, ret, narrow_b1]
  (try refine ⟨rfl, ?_⟩); (try refine ⟨rfl, ?_⟩)
  first | (intro acts; rw [hret _ acts rfl rfl rfl]) | rw [hret _ _ rfl rfl rfl]
  exact Steps.refl _
/-- what holds at the law's entry: the machine, the code, the tables' words (any of lw_tbl by 'hts w (by decide +kernel)'), the script of L ints xs at the cell b, what the Statement gives of the start (any of its parts by flat_of_before) -/
def lw_At (p : Program) (s : State) (m : MethodId) (meth : Method) (c : Code) (b L : Nat) (xs : Nat → Int32) : Prop :=
  p.tables.exec = Jvm.exec ∧ c.code = code ∧ meth.sig.returnType = ret ∧ c.maxLocals = 7 ∧ s.vm.findClass R_law = some m.cls ∧ (∀ w ∈ lw_tbl, w.before #[Value.ref b] s = true) ∧ va_X b L xs s s.heap ∧ b < s.heap.size ∧ meth.locks = false ∧ (Jvm.Cond.and given_1 narrow_1).before #[Value.ref b] s = true
theorem whole_start {p : Program} {e : Env} {s : State} {m : MethodId} {below : List Frame} {meth : Method} {c : Code} (l : Launch) (hflags : l.flags = flags0) {b L : Nat} {xs : Nat → Int32} (hL : L ≤ 3072) (C0 : lw_At p s m meth c b L xs) : W p l e room_1 s m #[Value.ref b] below meth c s.heap [] 0 0 (lw_Z below #[Value.ref b] s) (entryFrame m ([Value.ref b] : List Value).toArray 7) := by
  obtain ⟨hx, hb, hr, hml, hown, hts, hXs, hbl, hlk, hgv⟩ := C0
  refine law_enter hx hb hr hml hown hts hXs hbl hlk hgv (fun X e1 e2 e3 hE hAA hOV hSt hS2 hSc => ?_)
  have hA : ∀ a : Nat, a < s.heap.size → ¬ x_A X a := fun a ha hx => by
    have h9 : X.2.2.2.1.heap.size ≤ a := hx
    rw [e2] at h9
    omega
  have hF := flat_of_before _ hgv
  have hT : x_Thr X := by
    refine ⟨?_, ⟨#[Value.ref b], fun w hw => ?_⟩, ?_, ?_⟩
    · rw [e1, Launch.stackTraces, hflags]; rfl
    · rw [e2]; exact hts w (tw_in w hw)
    · rw [e2]; exact vx_Zqof (hts _ l_uns) (hts _ l_thr) (hF _ n_uns) hA
    · rw [e2]; exact vx_Zqof (hts _ l_sen) (hts _ l_thr) (hF _ n_sen) hA
  refine law_loop ⟨hAA, hSt, hS2⟩ hT hSc hL (fun MI ML MR cells slots i hc hs => ?_) 512 0 155 16361 mi0 ml0 mr0 (by omega) (by omega) (by decide) (by decide) start_Inv
  refine r_iconst (v := 1) rfl dL_law_1523 ?_
  intro O H locs la hP hLn hS hl hn
  refine W.widen (k := 601024) (n := 7293034) (by omega) (by omega) ?_
  have hfr : ∀ q ∈ locs, s.heap.size ≤ q.base := fun q hq => by
    have h9 : X.2.2.2.1.heap.size ≤ q.base := hS.2.2 q hq
    rw [e2] at h9
    exact h9
  rw [e1]
  exact W.forget (locs := []) (L := locs) hfr (lw_ret hx hb hr hlk dL_law_1524)
set_option maxHeartbeats 4000000 in
theorem lw_walk (l : Launch) (hflags : l.flags = flags0) (b : Addr) (xs : List Int32) : MetFree l x (headSpec (Jvm.Cond.code x code maxLocals ret :: tables_1) room_1) (lw_P b xs) (fun _ _ _ _ _ => True) lw_Q := by
  refine MetFree.of_bodyS (code := code) (maxLocals := maxLocals) (ret := ret) (by decide) ?_ ?_
  · intro args s m h hn
    obtain ⟨meth, c, h1, h2, h3, h4, h5, h6, -, -⟩ := Cond.code_spec hn (atoms_spec (ws := Jvm.Cond.code x code maxLocals ret :: tables_1) h _ List.mem_cons_self)
    exact ⟨meth, c, h1, h2, h3, h4, h5, h6⟩
  · intro p e s m args below meth c s₁ B hml0 hP _
    obtain ⟨rfl, hx, hbd, hgv⟩ := hP
    obtain ⟨scr, harrAt, hlist, hof, hsmall⟩ := hx
    obtain ⟨hcb, hkn, -, -⟩ := State.arrayAt?_spec harrAt
    have hown : s.vm.findClass R_law = some m.cls := findClass_of_methodNamed B.named
    have hts0 : ∀ c ∈ (Jvm.Cond.code x code maxLocals ret :: tables_1), c.before #[Value.ref b] s = true := atoms_spec (ws := Jvm.Cond.code x code maxLocals ret :: tables_1) B.pre
    have hts : ∀ w ∈ lw_tbl, w.before #[Value.ref b] s = true := k2_hts_sels lw_privs (fun w hw => hts0 w (List.mem_cons_of_mem _ hw)) lw_privs_ok
    have hml : c.maxLocals = 7 := B.maxLocals_eq (hts0 _ List.mem_cons_self)
    have X₀ : Stand p l e room_1 s m #[Value.ref b] below meth c s₁ [] 0 0 := Stand.of_body B
    have hh0 : s₁.heap = s.heap := by rw [B.state]; rfl
    have hsz : scr.slots.size = xs.length := by rw [← Array.length_toList, hlist, List.length_map]
    have hval : ∀ j : Nat, j < xs.length → scr.slots[j]? = some (.int (xs.getD j 0)) := fun j hj => by
      rw [← Array.getElem?_toList, hlist]
      simp [hj]
    have hbl : b < s.heap.size := (Array.getElem?_eq_some_iff.mp hcb).1
    have hX : va_X b xs.length (fun j => xs.getD j 0) s s.heap := ⟨scr, hcb, hof, hkn, hsz, hval⟩
    have K : W p l e room_1 s m #[Value.ref b] below meth c s₁.heap [] 0 0 (lw_Z below #[Value.ref b] s) (entryFrame m ([Value.ref b] : List Value).toArray 7) := by
      rw [hh0]
      exact whole_start l hflags hbd ⟨B.exec, B.bytes, B.returns, hml, hown, hts, hX, hbl, B.notSynchronized, hgv⟩
    obtain ⟨t, a1, o, b1, b2, b3⟩ := K s₁ rfl X₀
    exact ⟨t, o, a1, b1, b2, b3⟩
theorem lw_pre_spec {args : Array Value} {s : State} (h : (Jvm.Cond.and given_1 narrow_1).before args s = true) (hr : rest_1_c.before args s = true) : ∃ (b : Addr) (xs : List Int32), lw_P b xs args s := by
  have hs := flat_of_before _ h
  have hq := flat_of_before _ hr
  have hc : (Cond.count 1).before args s = true := hs _ (by decide +kernel)
  have harr : (Cond.arrayOf (.arg 0) .int).before args s = true := hs _ (by decide +kernel)
  have hle : (Cond.le (.length (.arg 0)) (.int 3072)).before args s = true := hs _ (by decide +kernel)
  have hlen : (Cond.isInt (.length (.arg 0))).before args s = true := hq _ (by decide +kernel)
  have hall : (Cond.all (.arg 0) (.isInt (.elem (.arg 0) (.index 0)))).before args s = true := hq _ (by decide +kernel)
  obtain ⟨b, xs, hb, hx⟩ := State.ints_of_pre rfl harr hlen hall
  have hsm : xs.length < 2 ^ 31 := hx.choose_spec.2.2.2
  have hev : (Term.length (.arg 0)).eval args s none [] s = some (.int xs.length.toInt32) := hx.length_eval hb
  have hv := Cond.le_ints hev (show (Term.int 3072).eval args s none [] s = some (.int 3072) from rfl)
  have hd : xs.length.toInt32 ≤ 3072 := by
    simpa [Cond.before, Cond.holds, hv] using hle
  have hN : xs.length ≤ 3072 := (Int32.ofNat_le_ofNat hsm (by decide)).mp (show Int32.ofNat xs.length ≤ Int32.ofNat 3072 from hd)
  exact ⟨b, xs, Cond.one_arg hc (show args[0]? = some (.ref b) from hb), hx, hN, h⟩
theorem lw_comes (l : Launch) (hflags : l.flags = flags0) : Comes l x (Jvm.Cond.code x code maxLocals ret :: tables_1) room_1 (fun tb e args s => Calls_1 tb e args s ∧ rest_1 tb e args s ∧ Pre_1 tb e args s)
    (fun _ _ args s o t => lw_Q args s o t) := by
  intro p e ha hc hk s m args below hf hfit hheap happ hpre
  obtain ⟨b, xs, hP⟩ := lw_pre_spec hpre.2.2 hpre.2.1
  obtain ⟨k, o, h1, h2, h3, hQ⟩ := lw_walk l hflags b xs p e ha hc hk s m args below hf ((Spec.applies_iff_loose hf).mp happ).1 hP trivial
  exact ⟨k, o, h1, h2, h3, hQ⟩
theorem lw_frame {s t : State} {o : Outcome} {args : Array Value} (h : Framed s o t [] 601024 7293034) :
    Framed s o t (fieldLocs frame_1_writes args s ++ arrayLocs frame_1_arrays args s ++ staticLocs frame_1_statics s) 601024 7293034 := h
theorem lw_limb (L : Cond) (hL : ∀ (args : Array Value) (s t : State), L.after args s (.returned (some (.int 1))) t = true) :
    ArmFor flags0 classFile x code maxLocals ret World_1 tables_1 room_1 Calls_1 rest_1 Pre_1
      (fun tb e a s o t => postC L tb e a s o t ∧ Framed s o t (fieldLocs frame_1_writes a s ++ arrayLocs frame_1_arrays a s ++ staticLocs frame_1_statics s) 601024 7293034) := by
  intro l hflags _ _ p e ha hc hk s m args below hf hfit hheap happ hpre
  obtain ⟨k, o, h1, h2, h3, rfl, hF⟩ := lw_comes l hflags p e ha hc hk s m args below hf hfit hheap happ hpre
  exact ⟨k, _, h1, h2, h3, hL args s _, lw_frame hF⟩
theorem i_vc : Claimed_1_1 ∧ Claimed_1_2 := ⟨lw_limb limb_1_1 (fun args s t => by simp [limb_1_1, Cond.after, Cond.holds, Cond.value]), lw_limb limb_1_2 (fun args s t => Cond.after_iff.mpr (by
  first | (rw [show limb_1_2 = Cond.eq .result (.int 1) from rfl, Cond.eq_ints (x := 1) (y := 1) rfl rfl]; simp; done) | (simp [limb_1_2, Cond.value, Term.eval]; done)))⟩

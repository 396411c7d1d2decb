/-! the law's own last: it catches; the case in the law -/
section RWy
variable {X : xG} {G : xM} {MI : Nat → Nat → Int32} {ML : Nat → Nat → Int64} {MR : Nat → Nat → Option Nat} {cells slots pc : Nat} {ls : List (Nat × Value)} {st : List Value}
def llQ (MI : Nat → Nat → Int32) (ML : Nat → Nat → Int64) (MR : Nat → Nat → Option Nat) (z : Option Nat) : xQ := fun r A B C => A = MI ∧ C = MR ∧ ((∃ s, z = some s ∧ r = some (.int 0) ∧ B = u2 ML 154 0 (nI s).toInt64) ∨ (z = none ∧ r = some (.int 1) ∧ B = ML))
theorem c_L_last (hT : x_Thr X) (hM : x_Lay MR) {A S : Nat} (hA : A ≤ 8) (hAr : MI 1 6 = nI A) (hSs : S ≤ 6) (hSr : MI 1 1 = nI S) {x : Int32} {z : Option Nat} (hz : z = lstC (fun s => leavesV MI 1 A (nI s)) S 0 x) : vx_Met X.1 yL_last (.codeWith yL_last cL_last 4 (some .int) [(0, 9, 12, 13)] :: x_T) (x_rm 12 1 6) (va_Pc ([Value.ref 0, .int x, .ref 154].map (x_rv X)) (x_Wd X 0 SH MI ML MR)) (x_Q X 0 SH (llQ MI ML MR z)) (fun _ _ _ => False) 1 6 (x_A X) := by
  refine CtH_of (by decide) (Nat.le_of_ble_eq_true rfl) (fun G hG => ?_)
  have kn : ∀ s1, z = some s1 → RW X G RL cL_last 4 (x_rm 12 1 6) 0 SH MI ML MR 1 6 7 [(0, .ref 0), (1, .int x), (2, .ref 154)] [.int (nI s1), .int 0, .ref 154] := fun s1 h1 => by
    refine r_i2l dL_last_7 ?_
    refine r_last (N := 1) dL_last_8 rfl (show vp_in 0 1 from vp_in_nI (n := 0) (N := 1) (by decide) (by decide)) ?_
    refine r_goto (tgt := 15) dL_last_9 (by decide) ?_
    refine r_iconst (v := 0) rfl dL_last_15 ?_
    exact r_iretX hG dL_last_16 ⟨by decide, by decide⟩ ⟨rfl, rfl, Or.inl ⟨s1, h1, rfl, rfl⟩⟩
  have kt : z = none → RW X G RL cL_last 4 (x_rm 12 1 6) 0 SH MI ML MR 1 6 13 [] [] := fun h1 => by
    refine r_iconst (v := 1) rfl dL_last_13 ?_
    exact r_iretX hG dL_last_14 ⟨by decide, by decide⟩ ⟨rfl, rfl, Or.inr ⟨h1, rfl, rfl⟩⟩
  refine r_aload_n 2 rfl dL_last_0 ?_
  refine r_iconst (v := 0) rfl dL_last_1 ?_
  refine r_aload_n 0 rfl dL_last_2 ?_
  refine r_iload_n 1 rfl dL_last_3 ?_
  obtain ⟨p, e, s, m, args, below, meth, c, rt, mn, Q⟩ := G
  intro O H locs la hP hL hS hl hn
  obtain ⟨g1, g2, g3, g4⟩ := hG
  have hts := O.2.2.2.2.1
  have hE := O.2.2.2.2.2.1
  obtain ⟨hini, hcode, hmh, hdesc⟩ := mb_X10_last
  have hpre : ∀ U : State, U.heap = H → s.WarmedH U.vm → va_Pc ([Value.ref 0, .int x].map (x_rv X)) (x_Wd X 0 SH MI ML MR) (([Value.ref 0, .int x].map (x_rv X)).toArray) U := fun U hU hW => ⟨rfl, by rw [hU]; exact hP, hL, fun q => absurd rfl q, x_Env_moved hE hS hU hW⟩
  have hrcv : ∃ cell : Cell, H[x_ad X 0]? = some cell ∧ cell.vm.isStatics = false ∧ s.vm.findClass RX10 = some cell.cls := va_recv hE.1 hP (show vwCl[10]? = some _ from rfl) (x_obj (show SH[0]? = some (10, _) from rfl) (by decide))
  have hrun := vx_runV (Ts := x_T) (As := [Value.int x]) (b := x_ad X 0) (C := RX10) (R := x_rm 12 1 6) (rest := [.int 0, .ref (x_ad X 154)]) (p := p) (e := e) (below := below) (meth := meth) (H := H) (locs := locs) (cells := 0) (slots := 0) (g := F0 m 4 la [.int x, .ref (x_ad X 0), .int 0, .ref (x_ad X 154)]) ⟨O.1, O.2.1, O.2.2.1, O.2.2.2.1, hts⟩ (c_X10_last (ML := ML) hT hM hA hAr hSs hSr hz) ⟨⟨rfl, rfl, by decide, by decide, pay_in hts (x_goodIn hcode), List.mem_cons_self, hts _ hcode, hts _ hini, hmh, x_len_of hdesc, hts _ lt_l7⟩, hts _ in_X10_last, hts _ se_X10_last⟩ ⟨x_blind, hrcv, hpre⟩ rfl rfl hl.1 rfl (lv_room (Nat.le_of_ble_eq_true rfl)) dL_last_4 ⟨by decide, by decide⟩
  intro T hT1 XX
  rcases hrun T hT1 XX with ⟨v, st₀, t, T', L, h0, X', hLf, e1, e2, ⟨⟨r, MI', ML', MR', hv, hq, hP', hlen', hn', hE'⟩, hF⟩, st⟩ | ⟨q, st₀, t, T', L, E, ce, h0, X', hLf, e1, e2, ⟨hzn, hEe, hPx, hF⟩, hce, hcv, hcl, st⟩
  · cases hv
    obtain ⟨s1, hz1, rfl, rfl, rfl, rfl⟩ := hq
    obtain ⟨-, -, hS'⟩ := vx_keep h0 e1 hS (fun q _ h => h) (fun q h => h) hLf hF
    obtain ⟨t2, b1, b2⟩ := kn s1 hz1 O T'.heap (locs ++ L) la (by rw [e1]; exact hP') hL hS' hl (fun q => absurd rfl q) T' rfl X'
    exact ⟨t2, st t2 b1, b2⟩
  · subst hEe
    obtain ⟨-, -, hS'⟩ := vx_keep h0 e1 hS (fun q _ h => h) (fun q h => h) hLf hF
    obtain ⟨a0, t2⟩ := hT.2.1
    have hcast : (Cond.castable nsE nsE).before args s = true := tw_at (by simp [tw4]) hE.2.2.1 (t2 _ (by simp [tw4]))
    have hW := vx_catch (p := p) (l := X.1) (e := e) (R := x_rm 12 1 6) (below := below) (meth := meth) (locs := locs ++ L) (cells := 1) (slots := 6) (Q := Q) (pc := 4) (ls := la) (rest := [.int 0, .ref (x_ad X 154)]) (own := RL) (name := nsE) (E := nsE) (ce := ce) (q := q) (H := T'.heap) O.2.2.2.1 [] ⟨0, 9, 12, 13⟩ [] g3 (fun z hz => nomatch hz) (by decide) (by decide) (hts _ lt_clL) hcast (by rw [e1]; exact hce) hcv hcl
      (lv_astore_n O.1 O.2.1 dL_last_12 rfl hl (by decide) rfl (fun la2 hl2 => kt hzn O T'.heap (locs ++ L) la2 (by rw [e1]; exact hPx) hL hS' ⟨hl2.1, hl2.2.1, fun q hq => nomatch hq⟩ (fun q => absurd rfl q)))
    obtain ⟨t2, b1, b2⟩ := hW T' rfl X'
    exact ⟨t2, st.trans b1, b2⟩
theorem x_goodW {y : MethodName} {cc : ByteArray} {nL : Nat} {rt : Option FieldType} {hh : List (Nat × Nat × Nat × Nat)} (h : Cond.codeWith y cc nL rt hh ∈ x_T) : GoodIn x_T (.codeWith y cc nL rt hh :: x_T) := by
  intro w hw
  rcases List.mem_cons.mp hw with e | hw
  · subst e; exact ⟨h, good_of_word (x_goodT h)⟩
  · exact ⟨hw, good_of_word (x_goodT hw)⟩
/-- the law calls its last -/
theorem r_Llast (hT : x_Thr X) (hM : x_Lay MR) {A S : Nat} (hA : A ≤ 8) (hAr : MI 1 6 = nI A) (hSs : S ≤ 6) (hSr : MI 1 1 = nI S) {x : Int32} {z : Option Nat} (hz : z = lstC (fun s => leavesV MI 1 A (nI s)) S 0 x) (hc : cells ≤ 600000 ∧ slots ≤ 7000000) (k : ∀ r A B C, llQ MI ML MR z r A B C → RW X G RL cL_law 7 room_1 0 SH A B C (cells + 1) (slots + 6) 1434 ls r.toList) : RW X G RL cL_law 7 room_1 0 SH MI ML MR cells slots 1431 ls [.ref 154, .int x, .ref 0] := by
  obtain ⟨p, e, s, m, args, below, meth, c, rt, mn, Q⟩ := G
  intro O H locs la hP hL hS hl hn
  have hts := O.2.2.2.2.1
  have hE := O.2.2.2.2.2.1
  have hpre : ∀ U : State, U.heap = H → s.WarmedH U.vm → va_Pc ([Value.ref 0, .int x, .ref 154].map (x_rv X)) (x_Wd X 0 SH MI ML MR) (([Value.ref 0, .int x, .ref 154].map (x_rv X)).toArray) U := fun U hU hW => ⟨rfl, by rw [hU]; exact hP, hL, fun q => absurd rfl q, x_Env_moved hE hS hU hW⟩
  have hdesc : (parseMethodDescriptor yL_last.desc).map (fun d => d.parameters.length) = some 3 := by decide +kernel
  have hrun := vx_runSX (Ts := x_T) (As := [Value.ref (x_ad X 0), .int x, .ref (x_ad X 154)]) (R := room_1) (rest := []) (p := p) (e := e) (below := below) (meth := meth) (H := H) (locs := locs) (cells := cells) (slots := slots) (g := F0 m 1431 la [.ref (x_ad X 154), .int x, .ref (x_ad X 0)]) ⟨O.1, O.2.1, O.2.2.1, O.2.2.2.1, hts⟩ (c_L_last (ML := ML) hT hM hA hAr hSs hSr hz) ⟨⟨rfl, rfl, by decide, by decide, pay_in hts (x_goodW lt_cw), List.mem_cons_self⟩, hts _ lt_cw, hts _ lt_iL, ⟨by decide, by decide⟩, x_len_of hdesc, hts _ lt_l180, hts _ sc_L_last⟩ ⟨x_blind, hpre⟩ rfl rfl hl.1 rfl (lv_room (Nat.le_of_ble_eq_true rfl)) dL_law_1431 ⟨show cells + 1 ≤ 601024 by omega, show slots + 6 ≤ 7293034 by omega⟩
  intro T hT1 XX
  rcases hrun T hT1 XX with ⟨v, st₀, t, T', L, h0, X', hLf, e1, e2, ⟨⟨r, MI', ML', MR', hv, hq, hP', hlen', hn', hE'⟩, hF⟩, st⟩ | ⟨q, st₀, t, T', L, E, ce, h0, X', hLf, e1, e2, hx, -⟩
  · cases hv
    obtain ⟨-, -, hS'⟩ := vx_keep h0 e1 hS (fun q _ h => h) (fun q h => h) hLf hF
    have hk := k r MI' ML' MR' hq O T'.heap (locs ++ L) la (by rw [e1]; exact hP') hL hS' hl (fun q => absurd rfl q)
    have hr : r.toList.map (x_rv X) = (r.map (x_rv X)).toList ++ [] := by cases r <;> simp
    rw [hr] at hk
    obtain ⟨t2, b1, b2⟩ := hk T' rfl X'
    exact ⟨t2, st t2 b1, b2⟩
  · exact hx.elim
theorem inv_154 {r : Nat → Nat} {S A Gn b K u bi bo w : Nat} {v : Int64} (h : Inv MI ML MR r S A Gn b K u bi bo w) : Inv MI (u2 ML 154 0 v) MR r S A Gn b K u bi bo w :=
  inv_Fr h ⟨fun _ _ _ _ _ _ => rfl, rfl, fun _ _ _ _ _ => rfl, fun c hc => u2_row _ _ (by omega)⟩ (fun c _ _ => ⟨rfl, u2_row _ _ (by omega)⟩) (fun _ _ _ => rfl) h.2.2.1 h.2.2.2.2.2
variable {L i : Nat} {xs : Nat → Int32}
theorem lc_last (hT : x_Thr X) (hX : x_Sc X G L xs) (hi : i + 6 ≤ L) (hL : L ≤ 3072) (hI : InvE MI ML MR) (hc : cells ≤ 500000 ∧ slots ≤ 6000000) (k : ∀ MI2 ML2 MR2, InvE MI2 ML2 MR2 → RW X G RL cL_law 7 room_1 0 SH MI2 ML2 MR2 (cells + 1) (slots + 6) 1517 [(4, .int (nI i)), (3, .ref 154), (2, .ref 124), (1, .ref 0), (0, .ref 1300)] []) : RW X G RL cL_law 7 room_1 0 SH MI ML MR cells slots 1423 [(4, .int (nI i)), (3, .ref 154), (2, .ref 124), (1, .ref 0), (0, .ref 1300)] [] := by
  obtain ⟨r, S, A, Gn, b, K, u, bi, bo, w, h⟩ := hI
  obtain ⟨hT2, hIt, hIc, hIi, ⟨m1, m2⟩, hIa, hIv, -⟩ := id h.2.1
  have hS : S ≤ 6 := hIc.2.2.1.1
  have hA : A ≤ 8 := hIc.2.2.1.2.1
  obtain ⟨z, hz⟩ : ∃ z, z = lstC (fun s => leavesV MI 1 A (nI s)) S 0 (xs (nI i + 1).toNatClampNeg) := ⟨_, rfl⟩
  have hz2 : z = lstR (isl (arR MI) A) (xs (nI i + 1).toNatClampNeg) S 0 0 := by
    rw [hz]
    refine last_eq (fun j hj => ?_)
    rw [show (0 : Int32) = nI 0 from rfl, arP_nI (by omega) (by decide)]
    exact vR_PE m2 j hj 0 (by decide)
  refine r_aload_n 3 rfl dL_law_1423 ?_
  refine r_aload_n 4 rfl dL_law_1424 ?_
  refine r_iload 0 rfl dL_law_1425 ?_
  refine r_iconst (v := 1) rfl dL_law_1427 ?_
  refine r_iadd dL_law_1428 ?_
  refine r_scr hX dL_law_1429 (sc_in (k := 1) rfl (by omega) hL) ?_
  refine r_aload_n 1 rfl dL_law_1430 ?_
  refine r_Llast hT h.1.1 hA hIc.2.2.2.2.1.1 hS hIc.2.2.2.1.1 hz ⟨by omega, by omega⟩ (fun r0 A0 B0 C0 hq => ?_)
  obtain ⟨rfl, rfl, hq⟩ := hq
  have hfit : x_fit room_1 3 4 0 0 (cells + 1) (slots + 6) = true := fit0 (by decide) (by decide) ⟨by omega, by omega⟩
  have hfit2 : x_fit room_1 1 1 0 0 (cells + 1) (slots + 6) = true := fit0 (by decide) (by decide) ⟨by omega, by omega⟩
  rcases hq with ⟨s1, hz1, rfl, rfl⟩ | ⟨hz1, rfl, rfl⟩
  · show RW X G _ _ _ _ _ _ _ _ _ _ _ _ _ [.int 0]
    refine r_istore (ls2 := [(5, .int 0), (4, .int (nI i)), (3, .ref 154), (2, .ref 124), (1, .ref 0), (0, .ref 1300)]) dL_law_1434 (by decide) rfl ?_
    refine r_aload_n 3 rfl dL_law_1436 ?_
    refine r_aload_n 5 rfl dL_law_1437 ?_
    refine r_iload 1 rfl dL_law_1438 ?_
    refine r_iconst (v := 1) rfl dL_law_1440 ?_
    refine r_iadd dL_law_1441 ?_
    refine r_scr hX dL_law_1442 (sc_in (k := 1) rfl (by omega) hL) ?_
    refine r_Vf [.int _] dL_law_1443 lk_L_185 mb_X11_last in_X11_last se_X11_last rfl (c_X11_last h.1.1 hA hIc.2.2.2.2.1.2 hS hIc.2.2.2.1.2 hz2) rfl rfl rfl (Nat.le_of_ble_eq_true rfl) hfit ?_
    rw [hz1]
    refine r_istore (ls2 := [(6, .int (nI s1)), (5, .int 0), (4, .int (nI i)), (3, .ref 154), (2, .ref 124), (1, .ref 0), (0, .ref 1300)]) dL_law_1446 (by decide) rfl ?_
    refine r_aload_n 4 rfl dL_law_1448 ?_
    refine r_Vf [] dL_law_1449 lk_L_186 mb_X11_thrown in_X11_thrown se_X11_thrown rfl c_X11_thrown rfl rfl rfl (Nat.le_of_ble_eq_true rfl) hfit2 ?_
    refine r_iload 1 rfl dL_law_1452 ?_
    refine r_icmpeq (tgt := 1459) dL_law_1454 (by decide) (fun _ => ?_) (fun q => absurd (u2_eq _ _ _ _) q)
    refine r_iload 1 rfl dL_law_1459 ?_
    refine r_ifne (tgt := 1476) dL_law_1461 (by decide) (fun q => absurd rfl q) (fun _ => ?_)
    refine r_aload_n 3 rfl dL_law_1464 ?_
    refine r_iconst (v := 0) rfl dL_law_1465 ?_
    refine r_lald (N := 1) dL_law_1466 rfl (show vp_in 0 1 from vp_in_nI (n := 0) (N := 1) (by decide) (by decide)) ?_
    refine r_iload 0 rfl dL_law_1467 ?_
    refine r_i2l dL_law_1469 ?_
    refine r_lcmp dL_law_1470 ?_
    have hcmp : ∀ v : Int64, lg_cmp v v = 0 := fun v => by
      unfold lg_cmp
      rw [if_neg (Int64.lt_irrefl), if_pos rfl]
    refine r_ifeq (tgt := 1476) dL_law_1471 (by decide) (fun _ => ?_) (fun q => absurd (by rw [show (0 : Int32).toNatClampNeg = 0 from rfl, u2_eq]; exact hcmp _) q)
    refine r_goto (tgt := 1517) dL_law_1476 (by decide) ?_
    refine r_drop (ls2 := [(4, .int (nI i)), (3, .ref 154), (2, .ref 124), (1, .ref 0), (0, .ref 1300)]) (fun q hq => List.mem_cons_of_mem _ (List.mem_cons_of_mem _ hq)) ?_
    exact k _ _ _ ⟨r, S, A, Gn, b, K, u, bi, bo, w, inv_th (inv_154 h)⟩
  · show RW X G _ _ _ _ _ _ _ _ _ _ _ _ _ [.int 1]
    refine r_istore (ls2 := [(5, .int 1), (4, .int (nI i)), (3, .ref 154), (2, .ref 124), (1, .ref 0), (0, .ref 1300)]) dL_law_1434 (by decide) rfl ?_
    refine r_aload_n 3 rfl dL_law_1436 ?_
    refine r_aload_n 5 rfl dL_law_1437 ?_
    refine r_iload 1 rfl dL_law_1438 ?_
    refine r_iconst (v := 1) rfl dL_law_1440 ?_
    refine r_iadd dL_law_1441 ?_
    refine r_scr hX dL_law_1442 (sc_in (k := 1) rfl (by omega) hL) ?_
    refine r_Vf [.int _] dL_law_1443 lk_L_185 mb_X11_last in_X11_last se_X11_last rfl (c_X11_last h.1.1 hA hIc.2.2.2.2.1.2 hS hIc.2.2.2.1.2 hz2) rfl rfl rfl (Nat.le_of_ble_eq_true rfl) hfit ?_
    rw [hz1]
    refine r_istore (ls2 := [(6, .int 0), (5, .int 1), (4, .int (nI i)), (3, .ref 154), (2, .ref 124), (1, .ref 0), (0, .ref 1300)]) dL_law_1446 (by decide) rfl ?_
    refine r_aload_n 4 rfl dL_law_1448 ?_
    refine r_Vf [] dL_law_1449 lk_L_186 mb_X11_thrown in_X11_thrown se_X11_thrown rfl c_X11_thrown rfl rfl rfl (Nat.le_of_ble_eq_true rfl) hfit2 ?_
    refine r_iload 1 rfl dL_law_1452 ?_
    refine r_icmpeq (tgt := 1459) dL_law_1454 (by decide) (fun _ => ?_) (fun q => absurd (u2_eq _ _ _ _) q)
    refine r_iload 1 rfl dL_law_1459 ?_
    refine r_ifne (tgt := 1476) dL_law_1461 (by decide) (fun _ => ?_) (fun q => absurd q (by decide))
    refine r_goto (tgt := 1517) dL_law_1476 (by decide) ?_
    refine r_drop (ls2 := [(4, .int (nI i)), (3, .ref 154), (2, .ref 124), (1, .ref 0), (0, .ref 1300)]) (fun q hq => List.mem_cons_of_mem _ (List.mem_cons_of_mem _ hq)) ?_
    exact k _ _ _ ⟨r, S, A, Gn, b, K, u, bi, bo, w, inv_th h⟩
end RWy

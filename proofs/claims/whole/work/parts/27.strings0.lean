/-! string constants: i-th text at 1001 + i, its bytes at 1101 + i -/
def x_btx : List (List Int32) := [[115, 116, 97, 116, 101], [98, 101, 103, 105, 110], [97, 114, 99], [103, 97, 116, 101], [97, 98, 99, 100], [112, 113, 114], [112, 113, 114, 115, 116], [97, 98, 99, 100, 115, 116], [59, 47, 43, 45, 39]]
def x_sl' (i : Nat) : Nat := (x_btx.getD i []).length
def x_sb (i j : Nat) : Int32 := (x_btx.getD i []).getD j 0
theorem x_sl_le : ∀ i, i < 9 → x_sl' i ≤ 6 := by decide
theorem x_sid_i : ∀ i, i < 9 → ∀ t, x_txs[i]? = some t → x_sid t = 1001 + i := by
  intro i hi t ht
  rcases (show i = 0 ∨ i = 1 ∨ i = 2 ∨ i = 3 ∨ i = 4 ∨ i = 5 ∨ i = 6 ∨ i = 7 ∨ i = 8 by omega) with rfl | rfl | rfl | rfl | rfl | rfl | rfl | rfl | rfl <;> cases ht <;> decide
def x_S2 (X : xG) : Prop := (∀ i, i < 9 → va_O "java/lang/String" (X.2.2.2.2 (1001 + i)) (x_A X) X.2.2.2.1 X.2.2.2.1.heap ∧ va_OF "java/lang/String" "coder" "B" (.int 0) (X.2.2.2.2 (1001 + i)) (x_A X) X.2.2.2.1 X.2.2.2.1.heap ∧ va_OF "java/lang/String" "value" "[B" (.ref (X.2.2.2.2 (1101 + i))) (X.2.2.2.2 (1001 + i)) (x_A X) X.2.2.2.1 X.2.2.2.1.heap ∧ va_T .byte (X.2.2.2.2 (1101 + i)) (x_sl' i) (fun j => .int (x_sb i j)) (x_A X) X.2.2.2.1 X.2.2.2.1.heap) ∧ va_Z "java/lang/String" "COMPACT_STRINGS" "Z" (.int 1) (x_A X) X.2.2.2.1 X.2.2.2.1.heap ∧ (va_Z "jdk/internal/util/Preconditions" "SIOOBE_FORMATTER" "Ljava/util/function/BiFunction;" .null (x_A X) X.2.2.2.1 X.2.2.2.1.heap ∨ va_Z "jdk/internal/util/Preconditions" "SIOOBE_FORMATTER" "Ljava/util/function/BiFunction;" (.ref (X.2.2.2.2 1200)) (x_A X) X.2.2.2.1 X.2.2.2.1.heap)
theorem x_ad_ge {X : xG} {k : Nat} (h : 1000 ≤ k) : x_ad X k = X.2.2.2.2 k := if_neg (by omega)
theorem fj_val : Cond.fieldLink RJ0 9 "java/lang/String" "value" "[B" ∈ x_T := x_inT (List.mem_append_right _ (List.mem_of_getElem? (i := 2070) (by decide +kernel))) (by decide +kernel)
theorem fj_cod : Cond.fieldLink RJ0 15 "java/lang/String" "coder" "B" ∈ x_T := x_inT (List.mem_append_right _ (List.mem_of_getElem? (i := 2069) (by decide +kernel))) (by decide +kernel)
theorem fj_cmp : Cond.fieldLink RJ0 38 "java/lang/String" "COMPACT_STRINGS" "Z" ∈ x_T := x_inT (List.mem_append_right _ (List.mem_of_getElem? (i := 490) (by decide +kernel))) (by decide +kernel)
theorem fj_sio : Cond.fieldLink RJ0 1053 "jdk/internal/util/Preconditions" "SIOOBE_FORMATTER" "Ljava/util/function/BiFunction;" ∈ x_T := x_inT (List.mem_append_right _ (List.mem_of_getElem? (i := 533) (by decide +kernel))) (by decide +kernel)
theorem lmn_J1_38 : Cond.methodLink RJ1 38 Lib.Math.min.name ∈ x_T := x_inT (List.mem_append_right _ (List.mem_of_getElem? (i := 509) (by decide +kernel))) (by decide +kernel)
theorem smn : Cond.static Lib.Math.min.name ∈ x_T := x_inT (List.mem_append_right _ (List.mem_of_getElem? (i := 510) (by decide +kernel))) (by decide +kernel)
theorem cmn : Cond.code Lib.Math.min.name Lib.Math.min.code 2 (some .int) ∈ x_T := x_inT (List.mem_append_right _ (List.mem_of_getElem? (i := 511) (by decide +kernel))) (by decide +kernel)
section RWstr
variable {X : xG} {G : xM} {own : String} {cc : ByteArray} {nL : Nat} {R : Room} {n : Nat} {sh : List (Nat × Nat)} {MI : Nat → Nat → Int32} {ML : Nat → Nat → Int64} {MR : Nat → Nat → Option Nat} {cells slots pc : Nat} {ls : List (Nat × Value)} {st : List Value}
theorem r_ldcS {idx k0 : Nat} {tx : String} (hw : Cond.stringRef own idx tx ∈ lw_tbl) (hs : x_sid tx = k0) (hd : decode cc pc = .ok (.ldc idx, 2)) (k : RW X G own cc nL R n sh MI ML MR cells slots (pc + 2) ls (.ref k0 :: st)) : RW X G own cc nL R n sh MI ML MR cells slots pc ls st := by
  obtain ⟨p, e, s, m, args, below, meth, c, rt, mn, Q⟩ := G
  intro O H locs la hP hL hS hl hn
  have E := O.2.2.2.2.2.1
  subst hs
  have hk := k O H locs la hP hL hS hl hn
  have e1 : x_ad X (x_sid tx) = X.2.2.2.2 (x_sid tx) := x_ad_ge (by unfold x_sid; omega)
  have hk2 : W p X.1 e R s m args below meth c H locs cells slots Q (F0 m (pc + 2) la (.ref (x_ad X (x_sid tx)) :: st.map (x_rv X))) := hk
  rw [e1] at hk2
  exact va_ldcS O.1 O.2.1 O.2.2.2.1 (E.2.2.2.2.2 _ _ _ hw) hd hk2
theorem r_strV {i : Nat} (hS2 : x_S2 X) (hi : i < 9) (hd : decode cc pc = .ok (.getfield 9, 3)) (hw : Cond.fieldLink own 9 "java/lang/String" "value" "[B" ∈ x_T) (k : RW X G own cc nL R n sh MI ML MR cells slots (pc + 3) ls (.ref (1101 + i) :: st)) : RW X G own cc nL R n sh MI ML MR cells slots pc ls (.ref (1001 + i) :: st) := by
  obtain ⟨p, e, s, m, args, below, meth, c, rt, mn, Q⟩ := G
  intro O H locs la hP hL hS hl hn
  have E := O.2.2.2.2.2.1
  have h := ((hS2.1 i hi).2.2.1.moved E.2.2.1).kept (x_below E)
  have hk : W p X.1 e R s m args below meth c H locs cells slots Q (F0 m (pc + 3) la (.ref (x_ad X (1101 + i)) :: st.map (x_rv X))) := k O H locs la hP hL hS hl hn
  rw [x_ad_ge (by omega)] at hk
  show W p X.1 e R s m args below meth c H locs cells slots Q (F0 m pc la (.ref (x_ad X (1001 + i)) :: st.map (x_rv X)))
  rw [x_ad_ge (by omega)]
  exact vk_getf O.1 O.2.1 h hS O.2.2.2.1 (O.2.2.2.2.1 _ hw) (fun _ z => z) hd hk
theorem r_strC {i : Nat} (hS2 : x_S2 X) (hi : i < 9) (hd : decode cc pc = .ok (.getfield 15, 3)) (hw : Cond.fieldLink own 15 "java/lang/String" "coder" "B" ∈ x_T) (k : RW X G own cc nL R n sh MI ML MR cells slots (pc + 3) ls (.int 0 :: st)) : RW X G own cc nL R n sh MI ML MR cells slots pc ls (.ref (1001 + i) :: st) := by
  obtain ⟨p, e, s, m, args, below, meth, c, rt, mn, Q⟩ := G
  intro O H locs la hP hL hS hl hn
  have E := O.2.2.2.2.2.1
  have h := ((hS2.1 i hi).2.1.moved E.2.2.1).kept (x_below E)
  have hk : W p X.1 e R s m args below meth c H locs cells slots Q (F0 m (pc + 3) la (.int 0 :: st.map (x_rv X))) := k O H locs la hP hL hS hl hn
  show W p X.1 e R s m args below meth c H locs cells slots Q (F0 m pc la (.ref (x_ad X (1001 + i)) :: st.map (x_rv X)))
  rw [x_ad_ge (by omega)]
  exact vk_getf O.1 O.2.1 h hS O.2.2.2.1 (O.2.2.2.2.1 _ hw) (fun _ z => z) hd hk
theorem r_strZ (hS2 : x_S2 X) (hd : decode cc pc = .ok (.getstatic 38, 3)) (hw : Cond.fieldLink own 38 "java/lang/String" "COMPACT_STRINGS" "Z" ∈ x_T) (k : RW X G own cc nL R n sh MI ML MR cells slots (pc + 3) ls (.int 1 :: st)) : RW X G own cc nL R n sh MI ML MR cells slots pc ls st := by
  obtain ⟨p, e, s, m, args, below, meth, c, rt, mn, Q⟩ := G
  intro O H locs la hP hL hS hl hn
  have E := O.2.2.2.2.2.1
  exact va_gets O.1 O.2.1 ((hS2.2.1.moved E.2.2.1).kept (x_below E)) hS O.2.2.2.1 (O.2.2.2.2.1 _ hw) (fun _ h => h) hd (k O H locs la hP hL hS hl hn)
theorem r_strQ (hS2 : x_S2 X) (hd : decode cc pc = .ok (.getstatic 1053, 3)) (hw : Cond.fieldLink own 1053 "jdk/internal/util/Preconditions" "SIOOBE_FORMATTER" "Ljava/util/function/BiFunction;" ∈ x_T) (k : ∀ v : Value, (v = .null ∨ v = .ref 1200) → RW X G own cc nL R n sh MI ML MR cells slots (pc + 3) ls (v :: st)) : RW X G own cc nL R n sh MI ML MR cells slots pc ls st := by
  obtain ⟨p, e, s, m, args, below, meth, c, rt, mn, Q⟩ := G
  intro O H locs la hP hL hS hl hn
  have E := O.2.2.2.2.2.1
  rcases hS2.2.2 with h | h
  · exact va_gets O.1 O.2.1 ((h.moved E.2.2.1).kept (x_below E)) hS O.2.2.2.1 (O.2.2.2.2.1 _ hw) (fun _ h => h) hd (k .null (Or.inl rfl) O H locs la hP hL hS hl hn)
  · have hk : W p X.1 e R s m args below meth c H locs cells slots Q (F0 m (pc + 3) la (.ref (x_ad X 1200) :: st.map (x_rv X))) := k (.ref 1200) (Or.inr rfl) O H locs la hP hL hS hl hn
    rw [x_ad_ge (by decide)] at hk
    exact va_gets O.1 O.2.1 ((h.moved E.2.2.1).kept (x_below E)) hS O.2.2.2.1 (O.2.2.2.2.1 _ hw) (fun _ h => h) hd hk
theorem r_strL {i : Nat} {v : Int32} (hS2 : x_S2 X) (hi : i < 9) (hv : nI (x_sl' i) = v) (hd : decode cc pc = .ok (.arraylength, 1)) (k : RW X G own cc nL R n sh MI ML MR cells slots (pc + 1) ls (.int v :: st)) : RW X G own cc nL R n sh MI ML MR cells slots pc ls (.ref (1101 + i) :: st) := by
  obtain ⟨p, e, s, m, args, below, meth, c, rt, mn, Q⟩ := G
  intro O H locs la hP hL hS hl hn
  have E := O.2.2.2.2.2.1
  have h := ((hS2.1 i hi).2.2.2.moved E.2.2.1).kept (x_below E)
  show W p X.1 e R s m args below meth c H locs cells slots Q (F0 m pc la (.ref (x_ad X (1101 + i)) :: st.map (x_rv X)))
  rw [x_ad_ge (by omega)]
  exact va_tlen O.1 O.2.1 h hS hv hd (k O H locs la hP hL hS hl hn)
theorem r_strB {i : Nat} {j : Int32} (hS2 : x_S2 X) (hi : i < 9) (hin : vp_in j (x_sl' i)) (hd : decode cc pc = .ok (.baload, 1)) (k : RW X G own cc nL R n sh MI ML MR cells slots (pc + 1) ls (.int (x_sb i j.toNatClampNeg) :: st)) : RW X G own cc nL R n sh MI ML MR cells slots pc ls (.int j :: .ref (1101 + i) :: st) := by
  obtain ⟨p, e, s, m, args, below, meth, c, rt, mn, Q⟩ := G
  intro O H locs la hP hL hS hl hn
  have E := O.2.2.2.2.2.1
  have h := ((hS2.1 i hi).2.2.2.moved E.2.2.1).kept (x_below E)
  show W p X.1 e R s m args below meth c H locs cells slots Q (F0 m pc la (.int j :: .ref (x_ad X (1101 + i)) :: st.map (x_rv X)))
  rw [x_ad_ge (by omega)]
  exact va_tb O.1 O.2.1 h hS hin rfl hd (k O H locs la hP hL hS hl hn)
theorem r_mmin {idx : Nat} {x y : Int32} (hd : decode cc pc = .ok (.invokestatic idx, 3)) (hlk : Cond.methodLink own idx Lib.Math.min.name ∈ x_T) (hct : (st.map (fun v => v.category)).sum + 13 ≤ R.locals) (hR : x_fit R 0 0 0 0 cells slots = true) (k : RW X G own cc nL R n sh MI ML MR cells slots (pc + 3) ls (.int (if y < x then y else x) :: st)) : RW X G own cc nL R n sh MI ML MR cells slots pc ls (.int y :: .int x :: st) := by
  obtain ⟨p, e, s, m, args, below, meth, c, rt, mn, Q⟩ := G
  intro O H locs la hP hL hS hl hn
  obtain ⟨hR1, hR2⟩ := x_fit_spec hR
  have hts := O.2.2.2.2.1
  have hcat : ((st.map (x_rv X)).map fun v => v.category).sum + 13 ≤ R.locals := by
    rw [List.map_map]
    have : ((fun v : Value => v.category) ∘ x_rv X) = fun v => v.category := funext fun v => x_cat X v
    rw [this]
    exact hct
  exact va_mmin O.1 O.2.1 (O.2.2.1.trans hl.1.symm) O.2.2.2.1 (hts _ hlk) (hts _ smn) (hts _ imx) (hts _ cmn) (by omega) hcat (by omega) (by omega) hd (k O H locs la hP hL hS hl hn)
theorem r_callVR {y : MethodName} {cc' : ByteArray} {nL' np idx d' mc' ms' a n' : Nat} {rt' : Option FieldType} {as stk : List Value} {sh' : List (Nat × Nat)} {Qv : xQ} (hd : decode cc pc = .ok (.invokevirtual idx, 3)) (hlk : x_LK own idx y) (hmb : x_MB y cc' nL' rt' np) (hin : Cond.instanceMethod y ∈ x_T) (hsel : Cond.selects y.cls y y ∈ x_T) (hC : Ct X y cc' nL' rt' d' mc' ms' (.ref a :: as) n sh MI ML MR n' sh' Qv) (hS2 : x_S2 X) (ha : 1001 ≤ a ∧ a < 1010) (hcl : y.cls = "java/lang/String") (hst : stk = as.reverse ++ .ref a :: st) (hnp : as.length = np) (hct : (st.map (fun v => v.category)).sum ≤ 8) (hR : x_fit R d' nL' mc' ms' cells slots = true) (k : ∀ (r : Option Value) (MI' : Nat → Nat → Int32) (ML' : Nat → Nat → Int64) (MR' : Nat → Nat → Option Nat), Qv r MI' ML' MR' → RW X G own cc nL R n' sh' MI' ML' MR' (cells + mc') (slots + ms') (pc + 3) ls (r.toList ++ st)) : RW X G own cc nL R n sh MI ML MR cells slots pc ls stk := by
  subst hst
  obtain ⟨p, e, s, m, args, below, meth, c, rt, mn, Q⟩ := G
  intro O H locs la hP hL hS hl hn
  obtain ⟨hini, hcode, hmh, hdesc⟩ := hmb
  obtain ⟨hR1, hR2⟩ := x_fit_spec hR
  have hts := O.2.2.2.2.1
  have hcat : ((st.map (x_rv X)).map fun v => v.category).sum ≤ 8 := by
    rw [List.map_map]
    have : ((fun v : Value => v.category) ∘ x_rv X) = fun v => v.category := funext fun v => x_cat X v
    rw [this]
    exact hct
  have hpre : ∀ U : State, U.heap = H → s.WarmedH U.vm → va_Pc ((.ref a :: as).map (x_rv X)) (x_Wd X n sh MI ML MR) (((.ref a :: as).map (x_rv X)).toArray) U := fun U hU hW => ⟨rfl, by rw [hU]; exact hP, hL, fun q => by rw [hU]; exact hn q, x_Env_moved O.2.2.2.2.2.1 hS hU hW⟩
  have hstk : (as.reverse ++ .ref a :: st).map (x_rv X) = (as.map (x_rv X)).reverse ++ .ref (x_ad X a) :: st.map (x_rv X) := by simp [x_rv]
  have hrcv : ∃ cell : Cell, H[x_ad X a]? = some cell ∧ cell.vm.isStatics = false ∧ s.vm.findClass y.cls = some cell.cls := by
    have h := ((hS2.1 (a - 1001) (by omega)).1.moved O.2.2.2.2.2.1.2.2.1).kept (x_below O.2.2.2.2.2.1)
    rw [show 1001 + (a - 1001) = a by omega] at h
    obtain ⟨cell, h1, h2, h3, h4⟩ := h
    rw [x_ad_ge (by omega), hcl]
    exact ⟨cell, by rw [hS.2.1 _ (Array.getElem?_eq_some_iff.mp h1).1 h4]; exact h1, h2, h3⟩
  refine x_after (Q := Q) (mc := mc') (ms := ms') (rest := st.map (x_rv X)) (a := ((.ref a :: as).map (x_rv X)).toArray) (n := n') (sh := sh') (Qv := Qv) ?_ hS (fun r MI' ML' MR' H1 locs1 hq hP1 hL1 hS1 hn1 => ?_)
  · rw [hstk]
    rcases hlk with hlk | ⟨ho, hlk⟩
    · exact va_runV (Ts := x_T) (As := as.map (x_rv X)) ⟨O.1, O.2.1, O.2.2.1, O.2.2.2.1, hts⟩ hC ⟨⟨rfl, rfl, hR1.1, hR1.2, pay_in hts (x_goodIn hcode), List.mem_cons_self, hts _ hcode, hts _ hini, hmh, x_len_of hdesc, hts _ hlk⟩, hts _ hin, hts _ hsel⟩ ⟨x_blind, hrcv, hpre⟩ rfl (by rw [List.length_map]; exact hnp) hl.1 rfl (lv_room hcat) hd hR2
    · exact va_runVN (Ts := x_T) (As := as.map (x_rv X)) ⟨O.1, O.2.1, O.2.2.1, O.2.2.2.1, hts⟩ hC ⟨⟨⟨rfl, rfl, hR1.1, hR1.2, pay_in hts (x_goodIn hcode), List.mem_cons_self⟩, hts _ hcode, hts _ hini, hmh, x_len_of hdesc, va_Nw.use rfl (O.2.2.2.2.2.1.2.1 _ _ _ _ hlk)⟩, hts _ hin, hts _ hsel⟩ ⟨x_blind, hrcv, hpre⟩ rfl (by rw [List.length_map]; exact hnp) hl.1 rfl (lv_room hcat) hd hR2
  · have hk := k r MI' ML' MR' hq O H1 locs1 la hP1 hL1 hS1 hl hn1
    have hr : (r.toList ++ st).map (x_rv X) = (r.map (x_rv X)).toList ++ st.map (x_rv X) := by cases r <;> simp
    rw [hr] at hk
    exact hk

theorem r_VRf {y : MethodName} {cc' : ByteArray} {nL' np idx d' a : Nat} {rt' : Option FieldType} {v : Value} (as : List Value) {stk : List Value} {MI' : Nat → Nat → Int32} {ML' : Nat → Nat → Int64} {MR' : Nat → Nat → Option Nat} (hd : decode cc pc = .ok (.invokevirtual idx, 3)) (hlk : x_LK own idx y) (hmb : x_MB y cc' nL' rt' np) (hin : Cond.instanceMethod y ∈ x_T) (hsel : Cond.selects y.cls y y ∈ x_T) (hst : stk = as.reverse ++ .ref a :: st) (hC : Cf X y cc' nL' rt' d' (.ref a :: as) n sh MI ML MR (some v) MI' ML' MR') (hS2 : x_S2 X) (ha : 1001 ≤ a ∧ a < 1010) (hcl : y.cls = "java/lang/String") (hnp : as.length = np) (hct : (st.map (fun v => v.category)).sum ≤ 8) (hR : x_fit R d' nL' 0 0 cells slots = true) (k : RW X G own cc nL R n sh MI' ML' MR' cells slots (pc + 3) ls (v :: st)) : RW X G own cc nL R n sh MI ML MR cells slots pc ls stk := by
  refine r_callVR hd hlk hmb hin hsel hC hS2 ha hcl hst hnp hct hR (fun r A B C hq => ?_)
  obtain ⟨rfl, rfl, rfl, rfl⟩ := hq
  exact k
end RWstr

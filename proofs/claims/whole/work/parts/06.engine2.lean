section RWc2
variable {X : xG} {G : xM} {own : String} {cc : ByteArray} {nL : Nat} {R : Room} {n : Nat} {sh : List (Nat × Nat)} {MI : Nat → Nat → Int32} {ML : Nat → Nat → Int64} {MR : Nat → Nat → Option Nat} {cells slots pc : Nat} {ls : List (Nat × Value)} {st : List Value}
theorem r_Vf {y : MethodName} {cc' : ByteArray} {nL' np idx d' a ci N : Nat} {rt' : Option FieldType} {v : Value} (as : List Value) {stk : List Value} {MI' : Nat → Nat → Int32} {ML' : Nat → Nat → Int64} {MR' : Nat → Nat → Option Nat} (hd : decode cc pc = .ok (.invokevirtual idx, 3)) (hlk : x_LK own idx y) (hmb : x_MB y cc' nL' rt' np) (hin : Cond.instanceMethod y ∈ x_T) (hsel : Cond.selects y.cls y y ∈ x_T) (hst : stk = as.reverse ++ .ref a :: st) (hC : Cf X y cc' nL' rt' d' (.ref a :: as) n sh MI ML MR (some v) MI' ML' MR') (hrc : sh[a]? = some (ci, N)) (hcl : x_own ci = some y.cls) (hnp : as.length = np) (hct : (st.map (fun v => v.category)).sum ≤ 8) (hR : x_fit R d' nL' 0 0 cells slots = true) (k : RW X G own cc nL R n sh MI' ML' MR' cells slots (pc + 3) ls (v :: st)) : RW X G own cc nL R n sh MI ML MR cells slots pc ls stk := by
  refine r_callV hd hlk hmb hin hsel hC hrc hcl hst hnp hct hR (fun r A B C hq => ?_)
  obtain ⟨rfl, rfl, rfl, rfl⟩ := hq
  exact k
theorem r_Vn {y : MethodName} {cc' : ByteArray} {nL' np idx d' a ci N : Nat} {rt' : Option FieldType} (as : List Value) {stk : List Value} {MI' : Nat → Nat → Int32} {ML' : Nat → Nat → Int64} {MR' : Nat → Nat → Option Nat} (hd : decode cc pc = .ok (.invokevirtual idx, 3)) (hlk : x_LK own idx y) (hmb : x_MB y cc' nL' rt' np) (hin : Cond.instanceMethod y ∈ x_T) (hsel : Cond.selects y.cls y y ∈ x_T) (hst : stk = as.reverse ++ .ref a :: st) (hC : Cf X y cc' nL' rt' d' (.ref a :: as) n sh MI ML MR none MI' ML' MR') (hrc : sh[a]? = some (ci, N)) (hcl : x_own ci = some y.cls) (hnp : as.length = np) (hct : (st.map (fun v => v.category)).sum ≤ 8) (hR : x_fit R d' nL' 0 0 cells slots = true) (k : RW X G own cc nL R n sh MI' ML' MR' cells slots (pc + 3) ls st) : RW X G own cc nL R n sh MI ML MR cells slots pc ls stk := by
  refine r_callV hd hlk hmb hin hsel hC hrc hcl hst hnp hct hR (fun r A B C hq => ?_)
  obtain ⟨rfl, rfl, rfl, rfl⟩ := hq
  exact k
theorem r_Vg {y : MethodName} {cc' : ByteArray} {nL' np idx d' a ci N : Nat} {rt' : Option FieldType} (as : List Value) {stk : List Value} {Qv : xQ} (hd : decode cc pc = .ok (.invokevirtual idx, 3)) (hlk : x_LK own idx y) (hmb : x_MB y cc' nL' rt' np) (hin : Cond.instanceMethod y ∈ x_T) (hsel : Cond.selects y.cls y y ∈ x_T) (hst : stk = as.reverse ++ .ref a :: st) (hC : Ct X y cc' nL' rt' d' 0 0 (.ref a :: as) n sh MI ML MR n sh Qv) (hrc : sh[a]? = some (ci, N)) (hcl : x_own ci = some y.cls) (hnp : as.length = np) (hct : (st.map (fun v => v.category)).sum ≤ 8) (hR : x_fit R d' nL' 0 0 cells slots = true) (k : ∀ (r : Option Value) (MI' : Nat → Nat → Int32) (ML' : Nat → Nat → Int64) (MR' : Nat → Nat → Option Nat), Qv r MI' ML' MR' → RW X G own cc nL R n sh MI' ML' MR' cells slots (pc + 3) ls (r.toList ++ st)) : RW X G own cc nL R n sh MI ML MR cells slots pc ls stk := r_callV hd hlk hmb hin hsel hC hrc hcl hst hnp hct hR k
theorem r_Sf {y : MethodName} {cc' : ByteArray} {nL' np idx d' : Nat} {rt' : Option FieldType} {v : Value} (as : List Value) {stk : List Value} {MI' : Nat → Nat → Int32} {ML' : Nat → Nat → Int64} {MR' : Nat → Nat → Option Nat} (hd : decode cc pc = .ok (.invokestatic idx, 3)) (hlk : x_LK own idx y) (hmb : x_MB y cc' nL' rt' np) (hstc : Cond.static y ∈ x_T) (hst : stk = as.reverse ++ st) (hC : Cf X y cc' nL' rt' d' as n sh MI ML MR (some v) MI' ML' MR') (hnp : as.length = np) (hct : (st.map (fun v => v.category)).sum ≤ 8) (hR : x_fit R d' nL' 0 0 cells slots = true) (k : RW X G own cc nL R n sh MI' ML' MR' cells slots (pc + 3) ls (v :: st)) : RW X G own cc nL R n sh MI ML MR cells slots pc ls stk := by
  refine r_callS hd hlk hmb hstc hC  hst hnp hct hR (fun r A B C hq => ?_)
  obtain ⟨rfl, rfl, rfl, rfl⟩ := hq
  exact k
theorem r_Sn {y : MethodName} {cc' : ByteArray} {nL' np idx d' : Nat} {rt' : Option FieldType} (as : List Value) {stk : List Value} {MI' : Nat → Nat → Int32} {ML' : Nat → Nat → Int64} {MR' : Nat → Nat → Option Nat} (hd : decode cc pc = .ok (.invokestatic idx, 3)) (hlk : x_LK own idx y) (hmb : x_MB y cc' nL' rt' np) (hstc : Cond.static y ∈ x_T) (hst : stk = as.reverse ++ st) (hC : Cf X y cc' nL' rt' d' as n sh MI ML MR none MI' ML' MR') (hnp : as.length = np) (hct : (st.map (fun v => v.category)).sum ≤ 8) (hR : x_fit R d' nL' 0 0 cells slots = true) (k : RW X G own cc nL R n sh MI' ML' MR' cells slots (pc + 3) ls st) : RW X G own cc nL R n sh MI ML MR cells slots pc ls stk := by
  refine r_callS hd hlk hmb hstc hC  hst hnp hct hR (fun r A B C hq => ?_)
  obtain ⟨rfl, rfl, rfl, rfl⟩ := hq
  exact k
theorem r_Sg {y : MethodName} {cc' : ByteArray} {nL' np idx d' : Nat} {rt' : Option FieldType} (as : List Value) {stk : List Value} {Qv : xQ} (hd : decode cc pc = .ok (.invokestatic idx, 3)) (hlk : x_LK own idx y) (hmb : x_MB y cc' nL' rt' np) (hstc : Cond.static y ∈ x_T) (hst : stk = as.reverse ++ st) (hC : Ct X y cc' nL' rt' d' 0 0 as n sh MI ML MR n sh Qv) (hnp : as.length = np) (hct : (st.map (fun v => v.category)).sum ≤ 8) (hR : x_fit R d' nL' 0 0 cells slots = true) (k : ∀ (r : Option Value) (MI' : Nat → Nat → Int32) (ML' : Nat → Nat → Int64) (MR' : Nat → Nat → Option Nat), Qv r MI' ML' MR' → RW X G own cc nL R n sh MI' ML' MR' cells slots (pc + 3) ls (r.toList ++ st)) : RW X G own cc nL R n sh MI ML MR cells slots pc ls stk := r_callS hd hlk hmb hstc hC  hst hnp hct hR k
end RWc2
theorem x_inc (i : Nat) : nI i + Int32.ofInt 1 = nI (i + 1) := nI_1 i
theorem lcmp_ne {x y : Int64} : ¬ lg_cmp x y = 0 ↔ ¬ x = y := by
  unfold lg_cmp
  by_cases h : x = y
  · subst h
    have : ¬ x > x := fun q => Int64.lt_irrefl q
    simp [this]
  · by_cases h2 : x > y <;> simp [h, h2]
theorem lcmp_eq {x y : Int64} : lg_cmp x y = 0 ↔ x = y := by
  have := @lcmp_ne x y
  constructor
  · intro h; exact Classical.not_not.mp fun q => (this.mpr q) h
  · intro h; exact Classical.not_not.mp fun q => (this.mp q) h
def onesL : List Int64 := [-6148914691236517206, -3689348814741910324, -1085102592571150096, -71777214294589696, -281470681808896, -4294967296]
/-- the static row ONES of Cubes, at the law's start: its cell is 1000 -/
def x_St (X : xG) : Prop := va_Z "BurstDesk$Cubes" "ONES" "[J" (.ref (X.2.2.2.2 1000)) (x_A X) X.2.2.2.1 X.2.2.2.1.heap ∧ va_T .long (X.2.2.2.2 1000) 6 (fun j => .long (onesL.getD j 0)) (x_A X) X.2.2.2.1 X.2.2.2.1.heap
theorem x_below {X : xG} {s : State} (E : x_Env X s) : ∀ a : Nat, a < X.2.2.2.1.heap.size → ¬ x_A X a → s.heap[a]? = X.2.2.2.1.heap[a]? := fun a ha _ => E.2.2.2.2.1 a ha
section RWstat
variable {X : xG} {G : xM} {own : String} {cc : ByteArray} {nL : Nat} {R : Room} {n : Nat} {sh : List (Nat × Nat)} {MI : Nat → Nat → Int32} {ML : Nat → Nat → Int64} {MR : Nat → Nat → Option Nat} {cells slots pc : Nat} {ls : List (Nat × Value)} {st : List Value}
theorem r_gets {idx : Nat} (hSt : x_St X) (hd : decode cc pc = .ok (.getstatic idx, 3)) (hw : Cond.fieldLink own idx "BurstDesk$Cubes" "ONES" "[J" ∈ x_T) (k : RW X G own cc nL R n sh MI ML MR cells slots (pc + 3) ls (.ref 1000 :: st)) : RW X G own cc nL R n sh MI ML MR cells slots pc ls st := by
  obtain ⟨p, e, s, m, args, below, meth, c, rt, mn, Q⟩ := G
  intro O H locs la hP hL hS hl hn
  have E := O.2.2.2.2.2.1
  exact va_gets O.1 O.2.1 ((hSt.1.moved E.2.2.1).kept (x_below E)) hS O.2.2.2.1 (O.2.2.2.2.1 _ hw) (fun _ h => h) hd (k O H locs la hP hL hS hl hn)
theorem r_stald {i : Int32} (hSt : x_St X) (hd : decode cc pc = .ok (.laload, 1)) (hi : vp_in i 6) (k : RW X G own cc nL R n sh MI ML MR cells slots (pc + 1) ls (.long (onesL.getD i.toNatClampNeg 0) :: st)) : RW X G own cc nL R n sh MI ML MR cells slots pc ls (.int i :: .ref 1000 :: st) := by
  obtain ⟨p, e, s, m, args, below, meth, c, rt, mn, Q⟩ := G
  intro O H locs la hP hL hS hl hn
  have E := O.2.2.2.2.2.1
  exact va_tl O.1 O.2.1 ((hSt.2.moved E.2.2.1).kept (x_below E)) hS hi rfl hd (k O H locs la hP hL hS hl hn)
end RWstat
theorem lmx_J1_92 : Cond.methodLink RJ1 92 Lib.Math.max.name ∈ x_T := x_inT (List.mem_append_right _ (List.mem_of_getElem? (i := 506) (by decide +kernel))) (by decide +kernel)
theorem lmx_J2_224 : Cond.methodLink RJ2 224 Lib.Math.max.name ∈ x_T := x_inT (List.mem_append_right _ (List.mem_of_getElem? (i := 518) (by decide +kernel))) (by decide +kernel)
theorem lmx_X4_61 : Cond.methodLink RX4 61 Lib.Math.max.name ∈ x_T := x_inT (List.mem_append_right _ (List.mem_of_getElem? (i := 967) (by decide +kernel))) (by decide +kernel)
theorem lmx_X1_80 : Cond.methodLink RX1 80 Lib.Math.max.name ∈ x_T := x_inT (List.mem_append_right _ (List.mem_of_getElem? (i := 1181) (by decide +kernel))) (by decide +kernel)
theorem smx : Cond.static Lib.Math.max.name ∈ x_T := x_inT (List.mem_append_right _ (List.mem_of_getElem? (i := 507) (by decide +kernel))) (by decide +kernel)
theorem imx : Cond.initialized "java/lang/Math" ∈ x_T := x_inT (List.mem_append_right _ (List.mem_of_getElem? (i := 15) (by decide +kernel))) (by decide +kernel)
theorem cmx : Cond.code Lib.Math.max.name Lib.Math.max.code 2 (some .int) ∈ x_T := x_inT (List.mem_append_right _ (List.mem_of_getElem? (i := 508) (by decide +kernel))) (by decide +kernel)
section RWmax
variable {X : xG} {G : xM} {own : String} {cc : ByteArray} {nL : Nat} {R : Room} {n : Nat} {sh : List (Nat × Nat)} {MI : Nat → Nat → Int32} {ML : Nat → Nat → Int64} {MR : Nat → Nat → Option Nat} {cells slots pc : Nat} {ls : List (Nat × Value)} {st : List Value}
theorem r_mmax {idx : Nat} {x y : Int32} (hd : decode cc pc = .ok (.invokestatic idx, 3)) (hlk : Cond.methodLink own idx Lib.Math.max.name ∈ x_T) (hct : (st.map (fun v => v.category)).sum + 13 ≤ R.locals) (hR : x_fit R 0 0 0 0 cells slots = true) (k : RW X G own cc nL R n sh MI ML MR cells slots (pc + 3) ls (.int (if x < y then y else x) :: st)) : RW X G own cc nL R n sh MI ML MR cells slots pc ls (.int y :: .int x :: st) := by
  obtain ⟨p, e, s, m, args, below, meth, c, rt, mn, Q⟩ := G
  intro O H locs la hP hL hS hl hn
  obtain ⟨hR1, hR2⟩ := x_fit_spec hR
  have hts := O.2.2.2.2.1
  have hcat : ((st.map (x_rv X)).map fun v => v.category).sum + 13 ≤ R.locals := by
    rw [List.map_map]
    have : ((fun v : Value => v.category) ∘ x_rv X) = fun v => v.category := funext fun v => x_cat X v
    rw [this]
    exact hct
  exact va_mmax O.1 O.2.1 (O.2.2.1.trans hl.1.symm) O.2.2.2.1 (hts _ hlk) (hts _ smx) (hts _ imx) (hts _ cmx) (by omega) hcat (by omega) (by omega) hd (k O H locs la hP hL hS hl hn)
end RWmax

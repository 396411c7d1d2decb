section RWc2
variable {X : xG} {G : xM} {own : String} {cc : ByteArray} {nL : Nat} {R : Room} {n : Nat} {sh : List (Nat × Nat)} {MI : Nat → Nat → Int32} {ML : Nat → Nat → Int64} {MR : Nat → Nat → Option Nat} {cells slots pc : Nat} {ls : List (Nat × Value)} {st : List Value}
theorem r_Vf {y : MethodName} {cc' : ByteArray} {nL' np idx d' a ci N : Nat} {rt' : Option FieldType} {v : Value} (as : List Value) {stk : List Value} {MI' : Nat → Nat → Int32} {ML' : Nat → Nat → Int64} {MR' : Nat → Nat → Option Nat} (hd : decode cc pc = .ok (.invokevirtual idx, 3)) (hlk : x_LK own idx y) (hmb : x_MB y cc' nL' rt' np) (hin : Cond.instanceMethod y ∈ x_T) (hsel : Cond.selects y.cls y y ∈ x_T) (hst : stk = as.reverse ++ .ref a :: st) (hC : Cf X y cc' nL' rt' d' (.ref a :: as) n sh MI ML MR (some v) MI' ML' MR') (hrc : sh[a]? = some (ci, N)) (hcl : x_own ci = some y.cls) (hnp : as.length = np) (hct : (st.map (fun v => v.category)).sum ≤ 8) (hR : x_fit R d' nL' 0 0 cells slots = true) (k : RW X G own cc nL R n sh MI' ML' MR' cells slots (pc + 3) ls (v :: st)) : RW X G own cc nL R n sh MI ML MR cells slots pc ls stk := by
  refine r_callV hd hlk hmb hin hsel hC hrc hcl hst hnp hct hR (fun r A B C hq => ?_)
  obtain ⟨rfl, rfl, rfl, rfl⟩ := hq
  exact k
theorem r_Vn {y : MethodName} {cc' : ByteArray} {nL' np idx d' a ci N : Nat} {rt' : Option FieldType} {v : Value} (as : List Value) {stk : List Value} {MI' : Nat → Nat → Int32} {ML' : Nat → Nat → Int64} {MR' : Nat → Nat → Option Nat} (hd : decode cc pc = .ok (.invokevirtual idx, 3)) (hlk : x_LK own idx y) (hmb : x_MB y cc' nL' rt' np) (hin : Cond.instanceMethod y ∈ x_T) (hsel : Cond.selects y.cls y y ∈ x_T) (hst : stk = as.reverse ++ .ref a :: st) (hC : Cf X y cc' nL' rt' d' (.ref a :: as) n sh MI ML MR none MI' ML' MR') (hrc : sh[a]? = some (ci, N)) (hcl : x_own ci = some y.cls) (hnp : as.length = np) (hct : (st.map (fun v => v.category)).sum ≤ 8) (hR : x_fit R d' nL' 0 0 cells slots = true) (k : RW X G own cc nL R n sh MI' ML' MR' cells slots (pc + 3) ls st) : RW X G own cc nL R n sh MI ML MR cells slots pc ls stk := by
  refine r_callV hd hlk hmb hin hsel hC hrc hcl hst hnp hct hR (fun r A B C hq => ?_)
  obtain ⟨rfl, rfl, rfl, rfl⟩ := hq
  exact k
theorem r_Vg {y : MethodName} {cc' : ByteArray} {nL' np idx d' a ci N : Nat} {rt' : Option FieldType} (as : List Value) {stk : List Value} {Qv : xQ} (hd : decode cc pc = .ok (.invokevirtual idx, 3)) (hlk : x_LK own idx y) (hmb : x_MB y cc' nL' rt' np) (hin : Cond.instanceMethod y ∈ x_T) (hsel : Cond.selects y.cls y y ∈ x_T) (hst : stk = as.reverse ++ .ref a :: st) (hC : Ct X y cc' nL' rt' d' 0 0 (.ref a :: as) n sh MI ML MR n sh Qv) (hrc : sh[a]? = some (ci, N)) (hcl : x_own ci = some y.cls) (hnp : as.length = np) (hct : (st.map (fun v => v.category)).sum ≤ 8) (hR : x_fit R d' nL' 0 0 cells slots = true) (k : ∀ (r : Option Value) (MI' : Nat → Nat → Int32) (ML' : Nat → Nat → Int64) (MR' : Nat → Nat → Option Nat), Qv r MI' ML' MR' → RW X G own cc nL R n sh MI' ML' MR' cells slots (pc + 3) ls (r.toList ++ st)) : RW X G own cc nL R n sh MI ML MR cells slots pc ls stk := r_callV hd hlk hmb hin hsel hC hrc hcl hst hnp hct hR k
theorem r_Sf {y : MethodName} {cc' : ByteArray} {nL' np idx d' : Nat} {rt' : Option FieldType} {v : Value} (as : List Value) {stk : List Value} {MI' : Nat → Nat → Int32} {ML' : Nat → Nat → Int64} {MR' : Nat → Nat → Option Nat} (hd : decode cc pc = .ok (.invokestatic idx, 3)) (hlk : x_LK own idx y) (hmb : x_MB y cc' nL' rt' np) (hstc : Cond.static y ∈ x_T) (hst : stk = as.reverse ++ st) (hC : Cf X y cc' nL' rt' d' as n sh MI ML MR (some v) MI' ML' MR') (hnp : as.length = np) (hct : (st.map (fun v => v.category)).sum ≤ 8) (hR : x_fit R d' nL' 0 0 cells slots = true) (k : RW X G own cc nL R n sh MI' ML' MR' cells slots (pc + 3) ls (v :: st)) : RW X G own cc nL R n sh MI ML MR cells slots pc ls stk := by
  refine r_callS hd hlk hmb hstc hC  hst hnp hct hR (fun r A B C hq => ?_)
  obtain ⟨rfl, rfl, rfl, rfl⟩ := hq
  exact k
theorem r_Sn {y : MethodName} {cc' : ByteArray} {nL' np idx d' : Nat} {rt' : Option FieldType} {v : Value} (as : List Value) {stk : List Value} {MI' : Nat → Nat → Int32} {ML' : Nat → Nat → Int64} {MR' : Nat → Nat → Option Nat} (hd : decode cc pc = .ok (.invokestatic idx, 3)) (hlk : x_LK own idx y) (hmb : x_MB y cc' nL' rt' np) (hstc : Cond.static y ∈ x_T) (hst : stk = as.reverse ++ st) (hC : Cf X y cc' nL' rt' d' as n sh MI ML MR none MI' ML' MR') (hnp : as.length = np) (hct : (st.map (fun v => v.category)).sum ≤ 8) (hR : x_fit R d' nL' 0 0 cells slots = true) (k : RW X G own cc nL R n sh MI' ML' MR' cells slots (pc + 3) ls st) : RW X G own cc nL R n sh MI ML MR cells slots pc ls stk := by
  refine r_callS hd hlk hmb hstc hC  hst hnp hct hR (fun r A B C hq => ?_)
  obtain ⟨rfl, rfl, rfl, rfl⟩ := hq
  exact k
theorem r_Sg {y : MethodName} {cc' : ByteArray} {nL' np idx d' : Nat} {rt' : Option FieldType} (as : List Value) {stk : List Value} {Qv : xQ} (hd : decode cc pc = .ok (.invokestatic idx, 3)) (hlk : x_LK own idx y) (hmb : x_MB y cc' nL' rt' np) (hstc : Cond.static y ∈ x_T) (hst : stk = as.reverse ++ st) (hC : Ct X y cc' nL' rt' d' 0 0 as n sh MI ML MR n sh Qv) (hnp : as.length = np) (hct : (st.map (fun v => v.category)).sum ≤ 8) (hR : x_fit R d' nL' 0 0 cells slots = true) (k : ∀ (r : Option Value) (MI' : Nat → Nat → Int32) (ML' : Nat → Nat → Int64) (MR' : Nat → Nat → Option Nat), Qv r MI' ML' MR' → RW X G own cc nL R n sh MI' ML' MR' cells slots (pc + 3) ls (r.toList ++ st)) : RW X G own cc nL R n sh MI ML MR cells slots pc ls stk := r_callS hd hlk hmb hstc hC  hst hnp hct hR k
end RWc2
theorem x_inc (i : Nat) : nI i + Int32.ofInt 1 = nI (i + 1) := nI_1 i
theorem lcmp_ne {x y : Int64} : ¬ lg_cmp x y = 0 ↔ ¬ x = y := by
  unfold lg_cmp
  by_cases h : x = y
  · subst h
    have : ¬ x > x := fun q => Int64.lt_irrefl q
    simp [this]
  · by_cases h2 : x > y <;> simp [h, h2]
theorem lcmp_eq {x y : Int64} : lg_cmp x y = 0 ↔ x = y := by
  have := @lcmp_ne x y
  constructor
  · intro h; exact Classical.not_not.mp fun q => (this.mpr q) h
  · intro h; exact Classical.not_not.mp fun q => (this.mp q) h

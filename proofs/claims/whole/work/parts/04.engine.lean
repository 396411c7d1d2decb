def x_own (ci : Nat) : Option String := (vwCl[ci]?).map (fun q => q.1)
/-! THE ENGINE. A memory of three sorts: MI a j, ML a j, MR a j: the int, long, reference in place j of cell a (a field or an element). sh: the kinds of the cells: below 12 an object of that place in vwCl, with how many fields; from 12 on an array (12 byte, 13 int, 14 long, 15 boolean, 16 Demands, 17 Sheet, 18 int[]), with its length. -/
def u2 {α : Type} (M : Nat → Nat → α) (a j : Nat) (x : α) : Nat → Nat → α := fun b i => if b = a ∧ i = j then x else M b i
theorem u2_eq {α : Type} (M : Nat → Nat → α) (a j : Nat) (x : α) : u2 M a j x a j = x := if_pos ⟨rfl, rfl⟩
theorem u2_ne {α : Type} (M : Nat → Nat → α) {a j b i : Nat} (x : α) (h : ¬ (b = a ∧ i = j)) : u2 M a j x b i = M b i := if_neg h
theorem u2_row {α : Type} (M : Nat → Nat → α) {a j b : Nat} (x : α) (h : b ≠ a) : u2 M a j x b = M b := funext fun _ => if_neg fun q => h q.1
abbrev xG : Type := Launch × va_G × (Nat → ClassId) × State × (Nat → Nat)
def x_ad (X : xG) (k : Nat) : Nat := if k < 1000 then X.2.2.2.1.heap.size + k else X.2.2.2.2 k
def x_rv (X : xG) (v : Value) : Value := match v with
  | .ref k => .ref (x_ad X k)
  | v => v
def x_A (X : xG) : Nat → Prop := fun q => X.2.2.2.1.heap.size ≤ q
theorem x_cat (X : xG) (v : Value) : (x_rv X v).category = v.category := by cases v <;> rfl
def x_tg : List (List Nat) := [[2, 2, 0], [2, 2, 2, 2, 0, 0], [2], [2, 2], [2, 0, 0, 2], [0, 0, 2, 0, 0, 0, 0, 2, 0, 2, 2], [2, 0, 2, 0, 0, 0, 0, 0, 0, 0, 0], [0, 2, 2, 2, 0, 2, 0, 2, 2, 0, 2, 0, 2, 0, 0, 0, 0, 2, 0], [2, 2, 2, 2, 2, 2, 0, 0, 2, 2, 2, 2, 2, 2], [2, 0, 0], [2, 2, 2, 2, 2, 2, 2, 2, 0, 0], [0, 0, 0, 2, 2, 2, 0, 0, 0, 0, 0, 0, 0, 1, 2, 2, 2, 2, 2, 0, 0, 0, 0, 2, 2, 2, 2, 0, 0, 2, 2, 2, 0, 2, 2, 2, 2, 2, 2, 2, 2, 2, 2, 0, 0, 0, 0, 0, 2, 2, 2, 2, 0]]
def x_tf (ci j : Nat) : Nat := (x_tg.getD ci []).getD j 0
def x_fv (X : xG) (MI : Nat → Nat → Int32) (ML : Nat → Nat → Int64) (MR : Nat → Nat → Option Nat) (a t j : Nat) : Value := if t = 0 then .int (MI a j) else if t = 1 then .long (ML a j) else va_rf ((MR a j).map (x_ad X))
def x_fs (X : xG) (MI : Nat → Nat → Int32) (ML : Nat → Nat → Int64) (MR : Nat → Nat → Option Nat) (a ci N : Nat) : List Value := (List.range N).map (fun j => x_fv X MI ML MR a (x_tf ci j) j)
def x_ac (X : xG) (MI : Nat → Nat → Int32) (ML : Nat → Nat → Int64) (MR : Nat → Nat → Option Nat) (a k : Nat) : (Nat → Int32) ⊕ (Nat → Int64) ⊕ (Nat → UInt32) ⊕ (Nat → UInt64) ⊕ (Nat → Option Nat) := if k = 14 then .inr (.inl (ML a)) else if k < 16 then .inl (MI a) else .inr (.inr (.inr (.inr (fun j => (MR a j).map (x_ad X)))))
def x_cell (X : xG) (MI : Nat → Nat → Int32) (ML : Nat → Nat → Int64) (MR : Nat → Nat → Option Nat) (a : Nat) (q : Nat × Nat) : va_E := if q.1 < 12 then .inr (q.1, x_fs X MI ML MR a q.1 q.2) else .inl (X.2.2.1 q.1, q.2, x_ac X MI ML MR a q.1)
def x_ws (X : xG) (sh : List (Nat × Nat)) (MI : Nat → Nat → Int32) (ML : Nat → Nat → Int64) (MR : Nat → Nat → Option Nat) : va_W := (List.range sh.length).map (fun a => (x_ad X a, x_cell X MI ML MR a (sh.getD a (0, 0))))
theorem x_len {sh : List (Nat × Nat)} {a : Nat} {q : Nat × Nat} (h : sh[a]? = some q) : a < sh.length := (List.getElem?_eq_some_iff.mp h).1
theorem x_ws_at {X : xG} {sh : List (Nat × Nat)} {MI : Nat → Nat → Int32} {ML : Nat → Nat → Int64} {MR : Nat → Nat → Option Nat} {a : Nat} {q : Nat × Nat} (h : sh[a]? = some q) : (x_ws X sh MI ML MR)[a]? = some (x_ad X a, x_cell X MI ML MR a q) := by
  have hl := x_len h
  unfold x_ws
  rw [List.getElem?_map, List.getElem?_range hl]
  simp [List.getD, h]
theorem x_cell_congr {X : xG} {MI MI' : Nat → Nat → Int32} {ML ML' : Nat → Nat → Int64} {MR MR' : Nat → Nat → Option Nat} {b : Nat} (q : Nat × Nat) (h1 : MI b = MI' b) (h2 : ML b = ML' b) (h3 : MR b = MR' b) : x_cell X MI ML MR b q = x_cell X MI' ML' MR' b q := by
  unfold x_cell x_fs x_ac x_fv
  rw [h1, h2, h3]
theorem x_ws_set {X : xG} {sh : List (Nat × Nat)} {MI MI' : Nat → Nat → Int32} {ML ML' : Nat → Nat → Int64} {MR MR' : Nat → Nat → Option Nat} {a : Nat} {q : Nat × Nat} {ce : va_E} (h : sh[a]? = some q) (he : x_cell X MI' ML' MR' a q = ce) (h1 : ∀ b, b ≠ a → MI' b = MI b) (h2 : ∀ b, b ≠ a → ML' b = ML b) (h3 : ∀ b, b ≠ a → MR' b = MR b) : (x_ws X sh MI ML MR).set a (x_ad X a, ce) = x_ws X sh MI' ML' MR' := by
  have hl := x_len h
  apply List.ext_getElem?
  intro b
  by_cases hb : b = a
  · subst hb
    rw [List.getElem?_set_self (by unfold x_ws; simpa using hl), x_ws_at h, he]
  · rw [List.getElem?_set_ne (Ne.symm hb)]
    unfold x_ws
    rw [List.getElem?_map, List.getElem?_map]
    by_cases hlb : b < sh.length
    · rw [List.getElem?_range hlb]
      simp only [Option.map_some]
      rw [x_cell_congr (sh.getD b (0, 0)) (h1 b hb) (h2 b hb) (h3 b hb)]
    · rw [List.getElem?_eq_none (by simpa using hlb)]
      rfl
theorem x_ad_lt {X : xG} {a : Nat} (h : a < 1000) : x_ad X a = X.2.2.2.1.heap.size + a := if_pos h
theorem x_D {X : xG} {sh : List (Nat × Nat)} {MI : Nat → Nat → Int32} {ML : Nat → Nat → Int64} {MR : Nat → Nat → Option Nat} (hl : sh.length ≤ 1000) : va_D (x_A X) (x_ws X sh MI ML MR) := by
  have key : ∀ (k : Nat) (q : Nat × va_E), (x_ws X sh MI ML MR)[k]? = some q → k < 1000 ∧ q.1 = X.2.2.2.1.heap.size + k := by
    intro k q hk
    have hlen : k < (x_ws X sh MI ML MR).length := (List.getElem?_eq_some_iff.mp hk).1
    have hks : k < sh.length := by unfold x_ws at hlen; simpa using hlen
    have h2 := x_ws_at (X := X) (MI := MI) (ML := ML) (MR := MR) (List.getElem?_eq_getElem hks)
    rw [h2] at hk
    cases hk
    exact ⟨by omega, x_ad_lt (by omega)⟩
  refine ⟨fun i j p q hi hj hpq => ?_, fun k q hk => ?_⟩
  · have h1 := (key i p hi).2
    have h2 := (key j q hj).2
    omega
  · have h1 := (key k q hk).2
    show X.2.2.2.1.heap.size ≤ q.1
    omega
def x_T : List Cond := lw_tbl.filter goodWord
theorem x_inT {w : Cond} (h : w ∈ lw_tbl) (g : goodWord w = true) : w ∈ x_T := List.mem_filter.mpr ⟨h, g⟩
theorem x_goodT {w : Cond} (h : w ∈ x_T) : goodWord w = true := (List.mem_filter.mp h).2
def x_N (U : State) : Prop := ∀ (a : String) (i : Nat) (y : MethodName) (h : String), Cond.methodLinkNest a i y h ∈ lw_tbl → va_Nw (.methodLinkNest a i y h) U
def x_tys (X : xG) : List (ClassId × FieldType) := [(X.2.2.1 12, .byte), (X.2.2.1 13, .int), (X.2.2.1 14, .long), (X.2.2.1 15, .boolean), (X.2.2.1 16, .object "BurstDesk$Demands"), (X.2.2.1 17, .object "BurstDesk$Sheet"), (X.2.2.1 18, .array .int)]
def x_txs : List String := ["state", "begin", "arc", "gate", "abcd", "pqr", "pqrst", "abcdst", ";/+-'"]
/-- the string constants: their cells are 1001 and on, by their texts -/
def x_sid (tx : String) : Nat := 1001 + x_txs.findIdx (fun q => decide (q = tx))
def x_Sr (X : xG) (U : State) : Prop := ∀ (a : String) (i : Nat) (tx : String), Cond.stringRef a i tx ∈ lw_tbl → vk_R a i tx (X.2.2.2.2 (x_sid tx)) U
def x_Env (X : xG) (U : State) : Prop := va_K X.2.1 vwCl (x_tys X) U ∧ x_N U ∧ X.2.2.2.1.vm.Alike U.vm ∧ X.2.2.2.1.heap.size ≤ U.heap.size ∧ (∀ q, q < X.2.2.2.1.heap.size → U.heap[q]? = X.2.2.2.1.heap[q]?) ∧ x_Sr X U
def x_Wd (X : xG) (n : Nat) (sh : List (Nat × Nat)) (MI : Nat → Nat → Int32) (ML : Nat → Nat → Int64) (MR : Nat → Nat → Option Nat) (U : State) : Prop := va_P X.2.1 vwCl (x_ws X sh MI ML MR) U.heap ∧ sh.length ≤ 1000 ∧ (n ≠ 0 → U.heap.size + 1 = X.2.2.2.1.heap.size + n) ∧ x_Env X U
abbrev xM : Type := Program × Env × State × MethodId × Array Value × List Frame × Method × Code × Option FieldType × String × (State → Prop)
/-- p e s m args below meth c rt mn Q -/
def x_Ok (X : xG) (p : Program) (s : State) (m : MethodId) (args : Array Value) (meth : Method) (c : Code) (rt : Option FieldType) (mn own : String) (cc : ByteArray) (nL : Nat) : Prop :=
  p.tables.exec = Jvm.exec ∧ c.code = cc ∧ c.maxLocals = nL ∧ s.vm.findClass own = some m.cls ∧ (∀ w ∈ x_T, w.before args s = true) ∧ x_Env X s ∧ meth.sig.returnType = rt ∧ meth.locks = false ∧ meth.name = mn
def x_ls (X : xG) (ls : List (Nat × Value)) : List (Nat × Value) := ls.map (fun q => (q.1, x_rv X q.2))
def RW (X : xG) (G : xM) (own : String) (cc : ByteArray) (nL : Nat) (R : Room) (n : Nat) (sh : List (Nat × Nat)) (MI : Nat → Nat → Int32) (ML : Nat → Nat → Int64) (MR : Nat → Nat → Option Nat) (cells slots pc : Nat) (ls : List (Nat × Value)) (st : List Value) : Prop :=
  match G with
  | (p, e, s, m, args, below, meth, c, rt, mn, Q) => x_Ok X p s m args meth c rt mn own cc nL → ∀ (H : Heap) (locs : List Loc) (la : Array Slot), va_P X.2.1 vwCl (x_ws X sh MI ML MR) H → sh.length ≤ 1000 → va_S (x_A X) s.heap H locs → lv_has la nL (x_ls X ls) → (n ≠ 0 → H.size + 1 = X.2.2.2.1.heap.size + n) → W p X.1 e R s m args below meth c H locs cells slots Q (F0 m pc la (st.map (x_rv X)))
theorem x_ls_at {X : xG} {ls : List (Nat × Value)} {k i : Nat} {v : Value} (h : ls[k]? = some (i, v)) : (x_ls X ls)[k]? = some (i, x_rv X v) := by
  unfold x_ls
  rw [List.getElem?_map, h]
  rfl
theorem x_ls_f1 {X : xG} (ls : List (Nat × Value)) (i : Nat) : (x_ls X ls).filter (fun q => !(q.1 == i) && !(q.1 + 1 == i && q.2.category == 2)) = x_ls X (ls.filter (fun q => !(q.1 == i) && !(q.1 + 1 == i && q.2.category == 2))) := by
  unfold x_ls
  rw [List.filter_map]
  congr 1
  apply List.filter_congr
  intro q _
  simp [x_cat]
theorem x_ls_f2 {X : xG} (ls : List (Nat × Value)) (i : Nat) : (x_ls X ls).filter (fun q => !(q.1 == i) && (!(q.1 == i + 1) && !(q.1 + 1 == i && q.2.category == 2))) = x_ls X (ls.filter (fun q => !(q.1 == i) && (!(q.1 == i + 1) && !(q.1 + 1 == i && q.2.category == 2)))) := by
  unfold x_ls
  rw [List.filter_map]
  congr 1
  apply List.filter_congr
  intro q _
  simp [x_cat]
def st1 (ls : List (Nat × Value)) (i : Nat) (v : Value) : List (Nat × Value) := (i, v) :: ls.filter (fun q => !(q.1 == i) && !(q.1 + 1 == i && q.2.category == 2))
def st2 (ls : List (Nat × Value)) (i : Nat) (v : Value) : List (Nat × Value) := (i, v) :: ls.filter (fun q => !(q.1 == i) && (!(q.1 == i + 1) && !(q.1 + 1 == i && q.2.category == 2)))
section RWrows
variable {X : xG} {G : xM} {own : String} {cc : ByteArray} {nL : Nat} {R : Room} {n : Nat} {sh : List (Nat × Nat)} {MI : Nat → Nat → Int32} {ML : Nat → Nat → Int64} {MR : Nat → Nat → Option Nat} {cells slots pc : Nat} {ls : List (Nat × Value)} {st : List Value}
theorem r_iconst {z : Int} {v : Int32} (hv : Int32.ofInt z = v) (hd : decode cc pc = .ok (.iconst z, 1)) (k : RW X G own cc nL R n sh MI ML MR cells slots (pc + 1) ls (.int v :: st)) : RW X G own cc nL R n sh MI ML MR cells slots pc ls st := by
  obtain ⟨p, e, s, m, args, below, meth, c, rt, mn, Q⟩ := G
  intro O H locs la hP hL hS hl hn
  exact lv_iconst O.1 O.2.1 hd hv (k O H locs la hP hL hS hl hn)
theorem r_bipush {z : Int} {v : Int32} (hv : (Int8.ofInt z).toInt32 = v) (hd : decode cc pc = .ok (.bipush z, 2)) (k : RW X G own cc nL R n sh MI ML MR cells slots (pc + 2) ls (.int v :: st)) : RW X G own cc nL R n sh MI ML MR cells slots pc ls st := by
  obtain ⟨p, e, s, m, args, below, meth, c, rt, mn, Q⟩ := G
  intro O H locs la hP hL hS hl hn
  exact lv_bipush O.1 O.2.1 hd hv (k O H locs la hP hL hS hl hn)
theorem r_sipush {z : Int} {v : Int32} (hv : (Int16.ofInt z).toInt32 = v) (hd : decode cc pc = .ok (.sipush z, 3)) (k : RW X G own cc nL R n sh MI ML MR cells slots (pc + 3) ls (.int v :: st)) : RW X G own cc nL R n sh MI ML MR cells slots pc ls st := by
  obtain ⟨p, e, s, m, args, below, meth, c, rt, mn, Q⟩ := G
  intro O H locs la hP hL hS hl hn
  exact lv_sipush O.1 O.2.1 hd hv (k O H locs la hP hL hS hl hn)
theorem r_lconst {z : Fin 2} {v : Int64} (hv : Int64.ofNat (z : Nat) = v) (hd : decode cc pc = .ok (.lconst z, 1)) (k : RW X G own cc nL R n sh MI ML MR cells slots (pc + 1) ls (.long v :: st)) : RW X G own cc nL R n sh MI ML MR cells slots pc ls st := by
  obtain ⟨p, e, s, m, args, below, meth, c, rt, mn, Q⟩ := G
  intro O H locs la hP hL hS hl hn
  exact lv_lconst O.1 O.2.1 hd hv (k O H locs la hP hL hS hl hn)
theorem r_iload_n {x : Int32} {j : Fin 4} (q : Nat) (hq : ls[q]? = some ((j : Nat), .int x)) (hd : decode cc pc = .ok (.iload_n j, 1)) (k : RW X G own cc nL R n sh MI ML MR cells slots (pc + 1) ls (.int x :: st)) : RW X G own cc nL R n sh MI ML MR cells slots pc ls st := by
  obtain ⟨p, e, s, m, args, below, meth, c, rt, mn, Q⟩ := G
  intro O H locs la hP hL hS hl hn
  exact lv_iload_n O.1 O.2.1 hd rfl (lv_at hl q (x_ls_at hq)) (k O H locs la hP hL hS hl hn)
theorem r_iload {x : Int32} {j : Nat} (q : Nat) (hq : ls[q]? = some (j, .int x)) (hd : decode cc pc = .ok (.iload j, 2)) (k : RW X G own cc nL R n sh MI ML MR cells slots (pc + 2) ls (.int x :: st)) : RW X G own cc nL R n sh MI ML MR cells slots pc ls st := by
  obtain ⟨p, e, s, m, args, below, meth, c, rt, mn, Q⟩ := G
  intro O H locs la hP hL hS hl hn
  exact lv_iload O.1 O.2.1 hd (lv_at hl q (x_ls_at hq)) (k O H locs la hP hL hS hl hn)
theorem r_lload_n {x : Int64} {j : Fin 4} (q : Nat) (hq : ls[q]? = some ((j : Nat), .long x)) (hd : decode cc pc = .ok (.lload_n j, 1)) (k : RW X G own cc nL R n sh MI ML MR cells slots (pc + 1) ls (.long x :: st)) : RW X G own cc nL R n sh MI ML MR cells slots pc ls st := by
  obtain ⟨p, e, s, m, args, below, meth, c, rt, mn, Q⟩ := G
  intro O H locs la hP hL hS hl hn
  exact lv_lload_n O.1 O.2.1 hd rfl (lv_at hl q (x_ls_at hq)) (k O H locs la hP hL hS hl hn)
theorem r_lload {x : Int64} {j : Nat} (q : Nat) (hq : ls[q]? = some (j, .long x)) (hd : decode cc pc = .ok (.lload j, 2)) (k : RW X G own cc nL R n sh MI ML MR cells slots (pc + 2) ls (.long x :: st)) : RW X G own cc nL R n sh MI ML MR cells slots pc ls st := by
  obtain ⟨p, e, s, m, args, below, meth, c, rt, mn, Q⟩ := G
  intro O H locs la hP hL hS hl hn
  exact lv_lload O.1 O.2.1 hd (lv_at hl q (x_ls_at hq)) (k O H locs la hP hL hS hl hn)
theorem r_aload_n {x : Nat} {j : Fin 4} (q : Nat) (hq : ls[q]? = some ((j : Nat), .ref x)) (hd : decode cc pc = .ok (.aload_n j, 1)) (k : RW X G own cc nL R n sh MI ML MR cells slots (pc + 1) ls (.ref x :: st)) : RW X G own cc nL R n sh MI ML MR cells slots pc ls st := by
  obtain ⟨p, e, s, m, args, below, meth, c, rt, mn, Q⟩ := G
  intro O H locs la hP hL hS hl hn
  exact lv_aload_n O.1 O.2.1 hd rfl (lv_at hl q (x_ls_at hq)) (k O H locs la hP hL hS hl hn)
theorem r_aload {x : Nat} {j : Nat} (q : Nat) (hq : ls[q]? = some (j, .ref x)) (hd : decode cc pc = .ok (.aload j, 2)) (k : RW X G own cc nL R n sh MI ML MR cells slots (pc + 2) ls (.ref x :: st)) : RW X G own cc nL R n sh MI ML MR cells slots pc ls st := by
  obtain ⟨p, e, s, m, args, below, meth, c, rt, mn, Q⟩ := G
  intro O H locs la hP hL hS hl hn
  exact lv_aload O.1 O.2.1 hd (lv_at hl q (x_ls_at hq)) (k O H locs la hP hL hS hl hn)
theorem r_istore_n {x : Int32} {j : Fin 4} {ls2 : List (Nat × Value)} (hd : decode cc pc = .ok (.istore_n j, 1)) (hj : (j : Nat) < nL) (h2 : st1 ls (j : Nat) (.int x) = ls2) (k : RW X G own cc nL R n sh MI ML MR cells slots (pc + 1) ls2 st) : RW X G own cc nL R n sh MI ML MR cells slots pc ls (.int x :: st) := by
  obtain ⟨p, e, s, m, args, below, meth, c, rt, mn, Q⟩ := G
  intro O H locs la hP hL hS hl hn
  subst h2
  exact lv_istore_n O.1 O.2.1 hd rfl hl hj (congrArg (List.cons _) (x_ls_f1 ls _)) (fun la hl => k O H locs la hP hL hS hl hn)
theorem r_istore {x : Int32} {j : Nat} {ls2 : List (Nat × Value)} (hd : decode cc pc = .ok (.istore j, 2)) (hj : j < nL) (h2 : st1 ls j (.int x) = ls2) (k : RW X G own cc nL R n sh MI ML MR cells slots (pc + 2) ls2 st) : RW X G own cc nL R n sh MI ML MR cells slots pc ls (.int x :: st) := by
  obtain ⟨p, e, s, m, args, below, meth, c, rt, mn, Q⟩ := G
  intro O H locs la hP hL hS hl hn
  subst h2
  exact lv_istore O.1 O.2.1 hd hl hj (congrArg (List.cons _) (x_ls_f1 ls _)) (fun la hl => k O H locs la hP hL hS hl hn)
theorem r_astore_n {x : Nat} {j : Fin 4} {ls2 : List (Nat × Value)} (hd : decode cc pc = .ok (.astore_n j, 1)) (hj : (j : Nat) < nL) (h2 : st1 ls (j : Nat) (.ref x) = ls2) (k : RW X G own cc nL R n sh MI ML MR cells slots (pc + 1) ls2 st) : RW X G own cc nL R n sh MI ML MR cells slots pc ls (.ref x :: st) := by
  obtain ⟨p, e, s, m, args, below, meth, c, rt, mn, Q⟩ := G
  intro O H locs la hP hL hS hl hn
  subst h2
  exact lv_astore_n O.1 O.2.1 hd rfl hl hj (congrArg (List.cons _) (x_ls_f1 ls _)) (fun la hl => k O H locs la hP hL hS hl hn)
theorem r_astore {x : Nat} {j : Nat} {ls2 : List (Nat × Value)} (hd : decode cc pc = .ok (.astore j, 2)) (hj : j < nL) (h2 : st1 ls j (.ref x) = ls2) (k : RW X G own cc nL R n sh MI ML MR cells slots (pc + 2) ls2 st) : RW X G own cc nL R n sh MI ML MR cells slots pc ls (.ref x :: st) := by
  obtain ⟨p, e, s, m, args, below, meth, c, rt, mn, Q⟩ := G
  intro O H locs la hP hL hS hl hn
  subst h2
  exact lv_astore O.1 O.2.1 hd hl hj (congrArg (List.cons _) (x_ls_f1 ls _)) (fun la hl => k O H locs la hP hL hS hl hn)
theorem r_lstore_n {x : Int64} {j : Fin 4} {ls2 : List (Nat × Value)} (hd : decode cc pc = .ok (.lstore_n j, 1)) (hj : (j : Nat) + 1 < nL) (h2 : st2 ls (j : Nat) (.long x) = ls2) (k : RW X G own cc nL R n sh MI ML MR cells slots (pc + 1) ls2 st) : RW X G own cc nL R n sh MI ML MR cells slots pc ls (.long x :: st) := by
  obtain ⟨p, e, s, m, args, below, meth, c, rt, mn, Q⟩ := G
  intro O H locs la hP hL hS hl hn
  subst h2
  exact lv_lstore_n O.1 O.2.1 hd rfl hl hj (congrArg (List.cons _) (x_ls_f2 ls _)) (fun la hl => k O H locs la hP hL hS hl hn)
theorem r_lstore {x : Int64} {j : Nat} {ls2 : List (Nat × Value)} (hd : decode cc pc = .ok (.lstore j, 2)) (hj : j + 1 < nL) (h2 : st2 ls j (.long x) = ls2) (k : RW X G own cc nL R n sh MI ML MR cells slots (pc + 2) ls2 st) : RW X G own cc nL R n sh MI ML MR cells slots pc ls (.long x :: st) := by
  obtain ⟨p, e, s, m, args, below, meth, c, rt, mn, Q⟩ := G
  intro O H locs la hP hL hS hl hn
  subst h2
  exact lv_lstore O.1 O.2.1 hd hl hj (congrArg (List.cons _) (x_ls_f2 ls _)) (fun la hl => k O H locs la hP hL hS hl hn)
theorem r_iinc {x v : Int32} {z : Int} {j : Nat} {ls2 : List (Nat × Value)} (q : Nat) (hd : decode cc pc = .ok (.iinc j z, 3)) (hq : ls[q]? = some (j, .int x)) (hv : x + Int32.ofInt z = v) (hj : j < nL) (h2 : st1 ls j (.int v) = ls2) (k : RW X G own cc nL R n sh MI ML MR cells slots (pc + 3) ls2 st) : RW X G own cc nL R n sh MI ML MR cells slots pc ls st := by
  obtain ⟨p, e, s, m, args, below, meth, c, rt, mn, Q⟩ := G
  intro O H locs la hP hL hS hl hn
  subst h2
  exact lv_iinc O.1 O.2.1 hd hl (x_ls_at hq) hv hj (congrArg (List.cons _) (x_ls_f1 ls _)) (fun la hl => k O H locs la hP hL hS hl hn)
theorem r_iadd {x y : Int32} (hd : decode cc pc = .ok (.iadd, 1)) (k : RW X G own cc nL R n sh MI ML MR cells slots (pc + 1) ls (.int (x + y) :: st)) : RW X G own cc nL R n sh MI ML MR cells slots pc ls (.int y :: .int x :: st) := by
  obtain ⟨p, e, s, m, args, below, meth, c, rt, mn, Q⟩ := G
  intro O H locs la hP hL hS hl hn
  exact lv_iadd O.1 O.2.1 hd (k O H locs la hP hL hS hl hn)
theorem r_isub {x y : Int32} (hd : decode cc pc = .ok (.isub, 1)) (k : RW X G own cc nL R n sh MI ML MR cells slots (pc + 1) ls (.int (x - y) :: st)) : RW X G own cc nL R n sh MI ML MR cells slots pc ls (.int y :: .int x :: st) := by
  obtain ⟨p, e, s, m, args, below, meth, c, rt, mn, Q⟩ := G
  intro O H locs la hP hL hS hl hn
  exact lv_isub O.1 O.2.1 hd (k O H locs la hP hL hS hl hn)
theorem r_imul {x y : Int32} (hd : decode cc pc = .ok (.imul, 1)) (k : RW X G own cc nL R n sh MI ML MR cells slots (pc + 1) ls (.int (x * y) :: st)) : RW X G own cc nL R n sh MI ML MR cells slots pc ls (.int y :: .int x :: st) := by
  obtain ⟨p, e, s, m, args, below, meth, c, rt, mn, Q⟩ := G
  intro O H locs la hP hL hS hl hn
  exact lv_imul O.1 O.2.1 hd (k O H locs la hP hL hS hl hn)
theorem r_iand {x y : Int32} (hd : decode cc pc = .ok (.iand, 1)) (k : RW X G own cc nL R n sh MI ML MR cells slots (pc + 1) ls (.int (x &&& y) :: st)) : RW X G own cc nL R n sh MI ML MR cells slots pc ls (.int y :: .int x :: st) := by
  obtain ⟨p, e, s, m, args, below, meth, c, rt, mn, Q⟩ := G
  intro O H locs la hP hL hS hl hn
  exact lv_iand O.1 O.2.1 hd (k O H locs la hP hL hS hl hn)
theorem r_ior {x y : Int32} (hd : decode cc pc = .ok (.ior, 1)) (k : RW X G own cc nL R n sh MI ML MR cells slots (pc + 1) ls (.int (x ||| y) :: st)) : RW X G own cc nL R n sh MI ML MR cells slots pc ls (.int y :: .int x :: st) := by
  obtain ⟨p, e, s, m, args, below, meth, c, rt, mn, Q⟩ := G
  intro O H locs la hP hL hS hl hn
  exact lv_ior O.1 O.2.1 hd (k O H locs la hP hL hS hl hn)
theorem r_ixor {x y : Int32} (hd : decode cc pc = .ok (.ixor, 1)) (k : RW X G own cc nL R n sh MI ML MR cells slots (pc + 1) ls (.int (x ^^^ y) :: st)) : RW X G own cc nL R n sh MI ML MR cells slots pc ls (.int y :: .int x :: st) := by
  obtain ⟨p, e, s, m, args, below, meth, c, rt, mn, Q⟩ := G
  intro O H locs la hP hL hS hl hn
  exact lv_ixor O.1 O.2.1 hd (k O H locs la hP hL hS hl hn)
theorem r_ishl {x y : Int32} (hd : decode cc pc = .ok (.ishl, 1)) (k : RW X G own cc nL R n sh MI ML MR cells slots (pc + 1) ls (.int (x <<< (y &&& 31)) :: st)) : RW X G own cc nL R n sh MI ML MR cells slots pc ls (.int y :: .int x :: st) := by
  obtain ⟨p, e, s, m, args, below, meth, c, rt, mn, Q⟩ := G
  intro O H locs la hP hL hS hl hn
  exact lv_ishl O.1 O.2.1 hd (k O H locs la hP hL hS hl hn)
theorem r_ishr {x y : Int32} (hd : decode cc pc = .ok (.ishr, 1)) (k : RW X G own cc nL R n sh MI ML MR cells slots (pc + 1) ls (.int (x >>> (y &&& 31)) :: st)) : RW X G own cc nL R n sh MI ML MR cells slots pc ls (.int y :: .int x :: st) := by
  obtain ⟨p, e, s, m, args, below, meth, c, rt, mn, Q⟩ := G
  intro O H locs la hP hL hS hl hn
  exact lv_ishr O.1 O.2.1 hd (k O H locs la hP hL hS hl hn)
theorem r_ladd {x y : Int64} (hd : decode cc pc = .ok (.ladd, 1)) (k : RW X G own cc nL R n sh MI ML MR cells slots (pc + 1) ls (.long (x + y) :: st)) : RW X G own cc nL R n sh MI ML MR cells slots pc ls (.long y :: .long x :: st) := by
  obtain ⟨p, e, s, m, args, below, meth, c, rt, mn, Q⟩ := G
  intro O H locs la hP hL hS hl hn
  exact lv_ladd O.1 O.2.1 hd (k O H locs la hP hL hS hl hn)
theorem r_lsub {x y : Int64} (hd : decode cc pc = .ok (.lsub, 1)) (k : RW X G own cc nL R n sh MI ML MR cells slots (pc + 1) ls (.long (x - y) :: st)) : RW X G own cc nL R n sh MI ML MR cells slots pc ls (.long y :: .long x :: st) := by
  obtain ⟨p, e, s, m, args, below, meth, c, rt, mn, Q⟩ := G
  intro O H locs la hP hL hS hl hn
  exact lv_lsub O.1 O.2.1 hd (k O H locs la hP hL hS hl hn)
theorem r_lmul {x y : Int64} (hd : decode cc pc = .ok (.lmul, 1)) (k : RW X G own cc nL R n sh MI ML MR cells slots (pc + 1) ls (.long (x * y) :: st)) : RW X G own cc nL R n sh MI ML MR cells slots pc ls (.long y :: .long x :: st) := by
  obtain ⟨p, e, s, m, args, below, meth, c, rt, mn, Q⟩ := G
  intro O H locs la hP hL hS hl hn
  exact lv_lmul O.1 O.2.1 hd (k O H locs la hP hL hS hl hn)
theorem r_land {x y : Int64} (hd : decode cc pc = .ok (.land, 1)) (k : RW X G own cc nL R n sh MI ML MR cells slots (pc + 1) ls (.long (x &&& y) :: st)) : RW X G own cc nL R n sh MI ML MR cells slots pc ls (.long y :: .long x :: st) := by
  obtain ⟨p, e, s, m, args, below, meth, c, rt, mn, Q⟩ := G
  intro O H locs la hP hL hS hl hn
  exact lv_land O.1 O.2.1 hd (k O H locs la hP hL hS hl hn)
theorem r_lor {x y : Int64} (hd : decode cc pc = .ok (.lor, 1)) (k : RW X G own cc nL R n sh MI ML MR cells slots (pc + 1) ls (.long (x ||| y) :: st)) : RW X G own cc nL R n sh MI ML MR cells slots pc ls (.long y :: .long x :: st) := by
  obtain ⟨p, e, s, m, args, below, meth, c, rt, mn, Q⟩ := G
  intro O H locs la hP hL hS hl hn
  exact lv_lor O.1 O.2.1 hd (k O H locs la hP hL hS hl hn)
theorem r_lxor {x y : Int64} (hd : decode cc pc = .ok (.lxor, 1)) (k : RW X G own cc nL R n sh MI ML MR cells slots (pc + 1) ls (.long (x ^^^ y) :: st)) : RW X G own cc nL R n sh MI ML MR cells slots pc ls (.long y :: .long x :: st) := by
  obtain ⟨p, e, s, m, args, below, meth, c, rt, mn, Q⟩ := G
  intro O H locs la hP hL hS hl hn
  exact lv_lxor O.1 O.2.1 hd (k O H locs la hP hL hS hl hn)
theorem r_iushr {x y : Int32} (hd : decode cc pc = .ok (.iushr, 1)) (k : RW X G own cc nL R n sh MI ML MR cells slots (pc + 1) ls (.int (x.toUInt32 >>> (y.toUInt32 &&& Int32.toUInt32 31)).toInt32 :: st)) : RW X G own cc nL R n sh MI ML MR cells slots pc ls (.int y :: .int x :: st) := by
  obtain ⟨p, e, s, m, args, below, meth, c, rt, mn, Q⟩ := G
  intro O H locs la hP hL hS hl hn
  exact lv_iushr O.1 O.2.1 hd rfl (k O H locs la hP hL hS hl hn)
theorem r_lshl {x : Int64} {y : Int32} (hd : decode cc pc = .ok (.lshl, 1)) (k : RW X G own cc nL R n sh MI ML MR cells slots (pc + 1) ls (.long (x <<< (y.toInt64 &&& 63)) :: st)) : RW X G own cc nL R n sh MI ML MR cells slots pc ls (.int y :: .long x :: st) := by
  obtain ⟨p, e, s, m, args, below, meth, c, rt, mn, Q⟩ := G
  intro O H locs la hP hL hS hl hn
  exact lv_lshl O.1 O.2.1 hd rfl (k O H locs la hP hL hS hl hn)
theorem r_lshr {x : Int64} {y : Int32} (hd : decode cc pc = .ok (.lshr, 1)) (k : RW X G own cc nL R n sh MI ML MR cells slots (pc + 1) ls (.long (x >>> (y.toInt64 &&& 63)) :: st)) : RW X G own cc nL R n sh MI ML MR cells slots pc ls (.int y :: .long x :: st) := by
  obtain ⟨p, e, s, m, args, below, meth, c, rt, mn, Q⟩ := G
  intro O H locs la hP hL hS hl hn
  exact lv_lshr O.1 O.2.1 hd rfl (k O H locs la hP hL hS hl hn)
theorem r_lushr {x : Int64} {y : Int32} (hd : decode cc pc = .ok (.lushr, 1)) (k : RW X G own cc nL R n sh MI ML MR cells slots (pc + 1) ls (.long (x.toUInt64 >>> (y.toInt64.toUInt64 &&& Int64.toUInt64 63)).toInt64 :: st)) : RW X G own cc nL R n sh MI ML MR cells slots pc ls (.int y :: .long x :: st) := by
  obtain ⟨p, e, s, m, args, below, meth, c, rt, mn, Q⟩ := G
  intro O H locs la hP hL hS hl hn
  exact lv_lushr O.1 O.2.1 hd rfl (k O H locs la hP hL hS hl hn)
theorem r_idiv {x y : Int32} (hne : ¬ y = 0) (hd : decode cc pc = .ok (.idiv, 1)) (k : RW X G own cc nL R n sh MI ML MR cells slots (pc + 1) ls (.int (x / y) :: st)) : RW X G own cc nL R n sh MI ML MR cells slots pc ls (.int y :: .int x :: st) := by
  obtain ⟨p, e, s, m, args, below, meth, c, rt, mn, Q⟩ := G
  intro O H locs la hP hL hS hl hn
  exact lv_idiv O.1 O.2.1 hd hne (k O H locs la hP hL hS hl hn)
theorem r_irem {x y : Int32} (hne : ¬ y = 0) (hd : decode cc pc = .ok (.irem, 1)) (k : RW X G own cc nL R n sh MI ML MR cells slots (pc + 1) ls (.int (x - x / y * y) :: st)) : RW X G own cc nL R n sh MI ML MR cells slots pc ls (.int y :: .int x :: st) := by
  obtain ⟨p, e, s, m, args, below, meth, c, rt, mn, Q⟩ := G
  intro O H locs la hP hL hS hl hn
  exact lv_irem O.1 O.2.1 hd hne (k O H locs la hP hL hS hl hn)
theorem r_i2l {x : Int32} (hd : decode cc pc = .ok (.i2l, 1)) (k : RW X G own cc nL R n sh MI ML MR cells slots (pc + 1) ls (.long x.toInt64 :: st)) : RW X G own cc nL R n sh MI ML MR cells slots pc ls (.int x :: st) := by
  obtain ⟨p, e, s, m, args, below, meth, c, rt, mn, Q⟩ := G
  intro O H locs la hP hL hS hl hn
  exact lv_i2l O.1 O.2.1 hd rfl (k O H locs la hP hL hS hl hn)
theorem r_l2i {x : Int64} (hd : decode cc pc = .ok (.l2i, 1)) (k : RW X G own cc nL R n sh MI ML MR cells slots (pc + 1) ls (.int x.toInt32 :: st)) : RW X G own cc nL R n sh MI ML MR cells slots pc ls (.long x :: st) := by
  obtain ⟨p, e, s, m, args, below, meth, c, rt, mn, Q⟩ := G
  intro O H locs la hP hL hS hl hn
  exact lv_l2i O.1 O.2.1 hd rfl (k O H locs la hP hL hS hl hn)
theorem r_i2b {x : Int32} (hd : decode cc pc = .ok (.i2b, 1)) (k : RW X G own cc nL R n sh MI ML MR cells slots (pc + 1) ls (.int x.toInt8.toInt32 :: st)) : RW X G own cc nL R n sh MI ML MR cells slots pc ls (.int x :: st) := by
  obtain ⟨p, e, s, m, args, below, meth, c, rt, mn, Q⟩ := G
  intro O H locs la hP hL hS hl hn
  exact lv_i2b O.1 O.2.1 hd rfl (k O H locs la hP hL hS hl hn)
theorem r_i2c {x : Int32} (hd : decode cc pc = .ok (.i2c, 1)) (k : RW X G own cc nL R n sh MI ML MR cells slots (pc + 1) ls (.int (x.toUInt32 % 65536).toInt32 :: st)) : RW X G own cc nL R n sh MI ML MR cells slots pc ls (.int x :: st) := by
  obtain ⟨p, e, s, m, args, below, meth, c, rt, mn, Q⟩ := G
  intro O H locs la hP hL hS hl hn
  exact lv_i2c O.1 O.2.1 hd rfl (k O H locs la hP hL hS hl hn)
theorem r_lcmp {x y : Int64} (hd : decode cc pc = .ok (.lcmp, 1)) (k : RW X G own cc nL R n sh MI ML MR cells slots (pc + 1) ls (.int (lg_cmp x y) :: st)) : RW X G own cc nL R n sh MI ML MR cells slots pc ls (.long y :: .long x :: st) := by
  obtain ⟨p, e, s, m, args, below, meth, c, rt, mn, Q⟩ := G
  intro O H locs la hP hL hS hl hn
  exact W.lcmp O.1 O.2.1 hd (k O H locs la hP hL hS hl hn)
theorem r_dup {v : Value} (hc : v.category = 1) (hd : decode cc pc = .ok (.dup, 1)) (k : RW X G own cc nL R n sh MI ML MR cells slots (pc + 1) ls (v :: v :: st)) : RW X G own cc nL R n sh MI ML MR cells slots pc ls (v :: st) := by
  obtain ⟨p, e, s, m, args, below, meth, c, rt, mn, Q⟩ := G
  intro O H locs la hP hL hS hl hn
  exact lv_dup O.1 O.2.1 hd (by rw [x_cat]; exact hc) (k O H locs la hP hL hS hl hn)
theorem r_pop {v : Value} (hc : v.category = 1) (hd : decode cc pc = .ok (.pop, 1)) (k : RW X G own cc nL R n sh MI ML MR cells slots (pc + 1) ls st) : RW X G own cc nL R n sh MI ML MR cells slots pc ls (v :: st) := by
  obtain ⟨p, e, s, m, args, below, meth, c, rt, mn, Q⟩ := G
  intro O H locs la hP hL hS hl hn
  exact lv_pop O.1 O.2.1 hd (by rw [x_cat]; exact hc) (k O H locs la hP hL hS hl hn)
theorem r_dup2 {v v2 : Value} (hc : v.category = 1) (hc2 : v2.category = 1) (hd : decode cc pc = .ok (.dup2, 1)) (k : RW X G own cc nL R n sh MI ML MR cells slots (pc + 1) ls (v :: v2 :: v :: v2 :: st)) : RW X G own cc nL R n sh MI ML MR cells slots pc ls (v :: v2 :: st) := by
  obtain ⟨p, e, s, m, args, below, meth, c, rt, mn, Q⟩ := G
  intro O H locs la hP hL hS hl hn
  exact lv_dup2_11 O.1 O.2.1 hd (by rw [x_cat]; exact hc) (by rw [x_cat]; exact hc2) (k O H locs la hP hL hS hl hn)
theorem r_dup2l {v : Value} (hc : v.category = 2) (hd : decode cc pc = .ok (.dup2, 1)) (k : RW X G own cc nL R n sh MI ML MR cells slots (pc + 1) ls (v :: v :: st)) : RW X G own cc nL R n sh MI ML MR cells slots pc ls (v :: st) := by
  obtain ⟨p, e, s, m, args, below, meth, c, rt, mn, Q⟩ := G
  intro O H locs la hP hL hS hl hn
  exact lv_dup2_2 O.1 O.2.1 hd (by rw [x_cat]; exact hc) (k O H locs la hP hL hS hl hn)
theorem r_ldc2 {j : Nat} {v : Int64} (hw : Cond.constantLong own j v ∈ x_T) (hd : decode cc pc = .ok (.ldc2_w j, 3)) (k : RW X G own cc nL R n sh MI ML MR cells slots (pc + 3) ls (.long v :: st)) : RW X G own cc nL R n sh MI ML MR cells slots pc ls st := by
  obtain ⟨p, e, s, m, args, below, meth, c, rt, mn, Q⟩ := G
  intro O H locs la hP hL hS hl hn
  exact lv_ldc2 O.1 O.2.1 O.2.2.2.1 (O.2.2.2.2.1 _ hw) hd (k O H locs la hP hL hS hl hn)
theorem r_ldc {j : Nat} {v : Int32} (hw : Cond.constant own j v ∈ x_T) (hd : decode cc pc = .ok (.ldc j, 2)) (k : RW X G own cc nL R n sh MI ML MR cells slots (pc + 2) ls (.int v :: st)) : RW X G own cc nL R n sh MI ML MR cells slots pc ls st := by
  obtain ⟨p, e, s, m, args, below, meth, c, rt, mn, Q⟩ := G
  intro O H locs la hP hL hS hl hn
  exact lv_ldc O.1 O.2.1 O.2.2.2.1 (O.2.2.2.2.1 _ hw) hd (k O H locs la hP hL hS hl hn)
theorem r_ifeq {x : Int32} {off : Int} {tgt : Nat} (hd : decode cc pc = .ok (.ifCond .eq off, 3)) (ht : (pc : Int) + off = (tgt : Int)) (kt : x = 0 → RW X G own cc nL R n sh MI ML MR cells slots tgt ls st) (kf : ¬ x = 0 → RW X G own cc nL R n sh MI ML MR cells slots (pc + 3) ls st) : RW X G own cc nL R n sh MI ML MR cells slots pc ls (.int x :: st) := by
  obtain ⟨p, e, s, m, args, below, meth, c, rt, mn, Q⟩ := G
  intro O H locs la hP hL hS hl hn
  exact lv_if_eq O.1 O.2.1 hd ht (fun h => kt h O H locs la hP hL hS hl hn) (fun h => kf h O H locs la hP hL hS hl hn)
theorem r_icmpeq {x y : Int32} {off : Int} {tgt : Nat} (hd : decode cc pc = .ok (.if_icmp .eq off, 3)) (ht : (pc : Int) + off = (tgt : Int)) (kt : x = y → RW X G own cc nL R n sh MI ML MR cells slots tgt ls st) (kf : ¬ x = y → RW X G own cc nL R n sh MI ML MR cells slots (pc + 3) ls st) : RW X G own cc nL R n sh MI ML MR cells slots pc ls (.int y :: .int x :: st) := by
  obtain ⟨p, e, s, m, args, below, meth, c, rt, mn, Q⟩ := G
  intro O H locs la hP hL hS hl hn
  exact lv_icmp_eq O.1 O.2.1 hd ht (fun h => kt h O H locs la hP hL hS hl hn) (fun h => kf h O H locs la hP hL hS hl hn)
theorem r_ifne {x : Int32} {off : Int} {tgt : Nat} (hd : decode cc pc = .ok (.ifCond .ne off, 3)) (ht : (pc : Int) + off = (tgt : Int)) (kt : ¬ x = 0 → RW X G own cc nL R n sh MI ML MR cells slots tgt ls st) (kf : x = 0 → RW X G own cc nL R n sh MI ML MR cells slots (pc + 3) ls st) : RW X G own cc nL R n sh MI ML MR cells slots pc ls (.int x :: st) := by
  obtain ⟨p, e, s, m, args, below, meth, c, rt, mn, Q⟩ := G
  intro O H locs la hP hL hS hl hn
  exact lv_if_ne O.1 O.2.1 hd ht (fun h => kt h O H locs la hP hL hS hl hn) (fun h => kf h O H locs la hP hL hS hl hn)
theorem r_icmpne {x y : Int32} {off : Int} {tgt : Nat} (hd : decode cc pc = .ok (.if_icmp .ne off, 3)) (ht : (pc : Int) + off = (tgt : Int)) (kt : ¬ x = y → RW X G own cc nL R n sh MI ML MR cells slots tgt ls st) (kf : x = y → RW X G own cc nL R n sh MI ML MR cells slots (pc + 3) ls st) : RW X G own cc nL R n sh MI ML MR cells slots pc ls (.int y :: .int x :: st) := by
  obtain ⟨p, e, s, m, args, below, meth, c, rt, mn, Q⟩ := G
  intro O H locs la hP hL hS hl hn
  exact lv_icmp_ne O.1 O.2.1 hd ht (fun h => kt h O H locs la hP hL hS hl hn) (fun h => kf h O H locs la hP hL hS hl hn)
theorem r_iflt {x : Int32} {off : Int} {tgt : Nat} (hd : decode cc pc = .ok (.ifCond .lt off, 3)) (ht : (pc : Int) + off = (tgt : Int)) (kt : x < 0 → RW X G own cc nL R n sh MI ML MR cells slots tgt ls st) (kf : ¬ x < 0 → RW X G own cc nL R n sh MI ML MR cells slots (pc + 3) ls st) : RW X G own cc nL R n sh MI ML MR cells slots pc ls (.int x :: st) := by
  obtain ⟨p, e, s, m, args, below, meth, c, rt, mn, Q⟩ := G
  intro O H locs la hP hL hS hl hn
  exact lv_if_lt O.1 O.2.1 hd ht (fun h => kt h O H locs la hP hL hS hl hn) (fun h => kf h O H locs la hP hL hS hl hn)
theorem r_icmplt {x y : Int32} {off : Int} {tgt : Nat} (hd : decode cc pc = .ok (.if_icmp .lt off, 3)) (ht : (pc : Int) + off = (tgt : Int)) (kt : x < y → RW X G own cc nL R n sh MI ML MR cells slots tgt ls st) (kf : ¬ x < y → RW X G own cc nL R n sh MI ML MR cells slots (pc + 3) ls st) : RW X G own cc nL R n sh MI ML MR cells slots pc ls (.int y :: .int x :: st) := by
  obtain ⟨p, e, s, m, args, below, meth, c, rt, mn, Q⟩ := G
  intro O H locs la hP hL hS hl hn
  exact lv_icmp_lt O.1 O.2.1 hd ht (fun h => kt h O H locs la hP hL hS hl hn) (fun h => kf h O H locs la hP hL hS hl hn)
theorem r_ifge {x : Int32} {off : Int} {tgt : Nat} (hd : decode cc pc = .ok (.ifCond .ge off, 3)) (ht : (pc : Int) + off = (tgt : Int)) (kt : 0 ≤ x → RW X G own cc nL R n sh MI ML MR cells slots tgt ls st) (kf : ¬ 0 ≤ x → RW X G own cc nL R n sh MI ML MR cells slots (pc + 3) ls st) : RW X G own cc nL R n sh MI ML MR cells slots pc ls (.int x :: st) := by
  obtain ⟨p, e, s, m, args, below, meth, c, rt, mn, Q⟩ := G
  intro O H locs la hP hL hS hl hn
  exact lv_if_ge O.1 O.2.1 hd ht (fun h => kt h O H locs la hP hL hS hl hn) (fun h => kf h O H locs la hP hL hS hl hn)
theorem r_icmpge {x y : Int32} {off : Int} {tgt : Nat} (hd : decode cc pc = .ok (.if_icmp .ge off, 3)) (ht : (pc : Int) + off = (tgt : Int)) (kt : y ≤ x → RW X G own cc nL R n sh MI ML MR cells slots tgt ls st) (kf : ¬ y ≤ x → RW X G own cc nL R n sh MI ML MR cells slots (pc + 3) ls st) : RW X G own cc nL R n sh MI ML MR cells slots pc ls (.int y :: .int x :: st) := by
  obtain ⟨p, e, s, m, args, below, meth, c, rt, mn, Q⟩ := G
  intro O H locs la hP hL hS hl hn
  exact lv_icmp_ge O.1 O.2.1 hd ht (fun h => kt h O H locs la hP hL hS hl hn) (fun h => kf h O H locs la hP hL hS hl hn)
theorem r_ifgt {x : Int32} {off : Int} {tgt : Nat} (hd : decode cc pc = .ok (.ifCond .gt off, 3)) (ht : (pc : Int) + off = (tgt : Int)) (kt : 0 < x → RW X G own cc nL R n sh MI ML MR cells slots tgt ls st) (kf : ¬ 0 < x → RW X G own cc nL R n sh MI ML MR cells slots (pc + 3) ls st) : RW X G own cc nL R n sh MI ML MR cells slots pc ls (.int x :: st) := by
  obtain ⟨p, e, s, m, args, below, meth, c, rt, mn, Q⟩ := G
  intro O H locs la hP hL hS hl hn
  exact lv_if_gt O.1 O.2.1 hd ht (fun h => kt h O H locs la hP hL hS hl hn) (fun h => kf h O H locs la hP hL hS hl hn)
theorem r_icmpgt {x y : Int32} {off : Int} {tgt : Nat} (hd : decode cc pc = .ok (.if_icmp .gt off, 3)) (ht : (pc : Int) + off = (tgt : Int)) (kt : y < x → RW X G own cc nL R n sh MI ML MR cells slots tgt ls st) (kf : ¬ y < x → RW X G own cc nL R n sh MI ML MR cells slots (pc + 3) ls st) : RW X G own cc nL R n sh MI ML MR cells slots pc ls (.int y :: .int x :: st) := by
  obtain ⟨p, e, s, m, args, below, meth, c, rt, mn, Q⟩ := G
  intro O H locs la hP hL hS hl hn
  exact lv_icmp_gt O.1 O.2.1 hd ht (fun h => kt h O H locs la hP hL hS hl hn) (fun h => kf h O H locs la hP hL hS hl hn)
theorem r_ifle {x : Int32} {off : Int} {tgt : Nat} (hd : decode cc pc = .ok (.ifCond .le off, 3)) (ht : (pc : Int) + off = (tgt : Int)) (kt : x ≤ 0 → RW X G own cc nL R n sh MI ML MR cells slots tgt ls st) (kf : ¬ x ≤ 0 → RW X G own cc nL R n sh MI ML MR cells slots (pc + 3) ls st) : RW X G own cc nL R n sh MI ML MR cells slots pc ls (.int x :: st) := by
  obtain ⟨p, e, s, m, args, below, meth, c, rt, mn, Q⟩ := G
  intro O H locs la hP hL hS hl hn
  exact lv_if_le O.1 O.2.1 hd ht (fun h => kt h O H locs la hP hL hS hl hn) (fun h => kf h O H locs la hP hL hS hl hn)
theorem r_icmple {x y : Int32} {off : Int} {tgt : Nat} (hd : decode cc pc = .ok (.if_icmp .le off, 3)) (ht : (pc : Int) + off = (tgt : Int)) (kt : x ≤ y → RW X G own cc nL R n sh MI ML MR cells slots tgt ls st) (kf : ¬ x ≤ y → RW X G own cc nL R n sh MI ML MR cells slots (pc + 3) ls st) : RW X G own cc nL R n sh MI ML MR cells slots pc ls (.int y :: .int x :: st) := by
  obtain ⟨p, e, s, m, args, below, meth, c, rt, mn, Q⟩ := G
  intro O H locs la hP hL hS hl hn
  exact lv_icmp_le O.1 O.2.1 hd ht (fun h => kt h O H locs la hP hL hS hl hn) (fun h => kf h O H locs la hP hL hS hl hn)
theorem r_goto {off : Int} {tgt : Nat} (hd : decode cc pc = .ok (.goto off, 3)) (ht : (pc : Int) + off = (tgt : Int)) (k : RW X G own cc nL R n sh MI ML MR cells slots tgt ls st) : RW X G own cc nL R n sh MI ML MR cells slots pc ls st := by
  obtain ⟨p, e, s, m, args, below, meth, c, rt, mn, Q⟩ := G
  intro O H locs la hP hL hS hl hn
  exact lv_goto O.1 O.2.1 hd ht (k O H locs la hP hL hS hl hn)
theorem r_tabIn {dflt lo hi off : Int} {offs : Array Int} {len tgt : Nat} {x : Int32} (hd : decode cc pc = .ok (.tableswitch dflt lo hi offs, len)) (h1 : ¬ x.toInt < lo) (h2 : ¬ hi < x.toInt) (ho : offs[(x.toInt - lo).toNat]? = some off) (ht : (pc : Int) + off = (tgt : Int)) (k : RW X G own cc nL R n sh MI ML MR cells slots tgt ls st) : RW X G own cc nL R n sh MI ML MR cells slots pc ls (.int x :: st) := by
  obtain ⟨p, e, s, m, args, below, meth, c, rt, mn, Q⟩ := G
  intro O H locs la hP hL hS hl hn
  exact lv_tableIn O.1 O.2.1 hd h1 h2 ho ht (k O H locs la hP hL hS hl hn)
theorem r_tabOut {dflt lo hi : Int} {offs : Array Int} {len tgt : Nat} {x : Int32} (hd : decode cc pc = .ok (.tableswitch dflt lo hi offs, len)) (h : x.toInt < lo ∨ hi < x.toInt) (ht : (pc : Int) + dflt = (tgt : Int)) (k : RW X G own cc nL R n sh MI ML MR cells slots tgt ls st) : RW X G own cc nL R n sh MI ML MR cells slots pc ls (.int x :: st) := by
  obtain ⟨p, e, s, m, args, below, meth, c, rt, mn, Q⟩ := G
  intro O H locs la hP hL hS hl hn
  exact lv_tableOut O.1 O.2.1 hd h ht (k O H locs la hP hL hS hl hn)
theorem r_nmi {x : Int32} (k : ∀ y : Int32, y = x → RW X G own cc nL R n sh MI ML MR cells slots pc ls (.int y :: st)) : RW X G own cc nL R n sh MI ML MR cells slots pc ls (.int x :: st) := k x rfl
theorem r_nml {x : Int64} (k : ∀ y : Int64, y = x → RW X G own cc nL R n sh MI ML MR cells slots pc ls (.long y :: st)) : RW X G own cc nL R n sh MI ML MR cells slots pc ls (.long x :: st) := k x rfl
theorem r_nmr {x : Nat} (k : ∀ y : Nat, y = x → RW X G own cc nL R n sh MI ML MR cells slots pc ls (.ref y :: st)) : RW X G own cc nL R n sh MI ML MR cells slots pc ls (.ref x :: st) := k x rfl
theorem r_mem {MI2 : Nat → Nat → Int32} {ML2 : Nat → Nat → Int64} {MR2 : Nat → Nat → Option Nat} (h1 : MI = MI2) (h2 : ML = ML2) (h3 : MR = MR2) (k : RW X G own cc nL R n sh MI2 ML2 MR2 cells slots pc ls st) : RW X G own cc nL R n sh MI ML MR cells slots pc ls st := by
  subst h1; subst h2; subst h3; exact k
theorem r_sub {ls2 : List (Nat × Value)} (ks : List Nat) (h : lv_pick ls ks = ls2) (k : RW X G own cc nL R n sh MI ML MR cells slots pc ls2 st) : RW X G own cc nL R n sh MI ML MR cells slots pc ls st := by
  obtain ⟨p, e, s, m, args, below, meth, c, rt, mn, Q⟩ := G
  intro O H locs la hP hL hS hl hn
  refine k O H locs la hP hL hS (lv_sub hl ks ?_) hn
  subst h
  unfold lv_pick x_ls
  rw [List.map_filterMap]
  congr 1
  funext q
  rw [List.getElem?_map]
end RWrows
/-- a class of the tables: its place, name, fields -/
def x_C (ci : Nat) (C : String) (T : u_T) (N : Nat) (ty : Nat → FieldType) : Prop := vwCl[ci]? = some (C, T, N) ∧ (∀ w ∈ u_ws C T N, w ∈ x_T) ∧ (∀ k, k < N → parseFieldDescriptor (T k).2.2.1 = some (ty k)) ∧ (∀ a, a < N → ∀ b, b < N → a ≠ b → (T a).2.1 ≠ (T b).2.1)
/-- field entry idx of class own: field k (of N) of class ci, of sort t -/
def x_FL (own : String) (idx ci k N t : Nat) (fin : Bool) (fty : FieldType) : Prop := ∃ (C : String) (T : u_T) (ty : Nat → FieldType), x_C ci C T N ty ∧ k < N ∧ ci < 12 ∧ Cond.fieldLink own idx (T k).1 (T k).2.1 (T k).2.2.1 ∈ x_T ∧ x_tf ci k = t ∧ (T k).2.2.2 = fin ∧ ty k = fty ∧ (T k).1 = C
theorem x_fs_at {X : xG} {MI : Nat → Nat → Int32} {ML : Nat → Nat → Int64} {MR : Nat → Nat → Option Nat} {a ci N k : Nat} (h : k < N) : (x_fs X MI ML MR a ci N)[k]? = some (x_fv X MI ML MR a (x_tf ci k) k) := by
  unfold x_fs
  rw [List.getElem?_map, List.getElem?_range h]
  rfl
theorem x_fs_len {X : xG} {MI : Nat → Nat → Int32} {ML : Nat → Nat → Int64} {MR : Nat → Nat → Option Nat} {a ci N : Nat} : (x_fs X MI ML MR a ci N).length = N := by unfold x_fs; simp
theorem x_fs_set {X : xG} {MI MI' : Nat → Nat → Int32} {ML ML' : Nat → Nat → Int64} {MR MR' : Nat → Nat → Option Nat} {a ci N k : Nat} {v : Value} (hk : k < N) (h : x_fv X MI' ML' MR' a (x_tf ci k) k = v) (ho : ∀ j, j ≠ k → MI' a j = MI a j ∧ ML' a j = ML a j ∧ MR' a j = MR a j) : x_fs X MI' ML' MR' a ci N = (x_fs X MI ML MR a ci N).set k v := by
  apply List.ext_getElem?
  intro j
  by_cases hj : j < N
  · rw [x_fs_at hj]
    by_cases e : j = k
    · subst e
      rw [List.getElem?_set_self (by rw [x_fs_len]; exact hj), h]
    · rw [List.getElem?_set_ne (Ne.symm e), x_fs_at hj]
      obtain ⟨h1, h2, h3⟩ := ho j e
      unfold x_fv
      rw [h1, h2, h3]
  · rw [List.getElem?_eq_none (by rw [x_fs_len]; omega), List.getElem?_eq_none (by rw [List.length_set, x_fs_len]; omega)]
theorem x_obj {X : xG} {MI : Nat → Nat → Int32} {ML : Nat → Nat → Int64} {MR : Nat → Nat → Option Nat} {sh : List (Nat × Nat)} {a ci N : Nat} (hs : sh[a]? = some (ci, N)) (hc : ci < 12) : (x_ws X sh MI ML MR)[a]? = some (x_ad X a, .inr (ci, x_fs X MI ML MR a ci N)) := by
  rw [x_ws_at hs]
  unfold x_cell
  rw [if_pos hc]
theorem x_arr {X : xG} {MI : Nat → Nat → Int32} {ML : Nat → Nat → Int64} {MR : Nat → Nat → Option Nat} {sh : List (Nat × Nat)} {a kd N : Nat} (hs : sh[a]? = some (kd, N)) (hc : ¬ kd < 12) : (x_ws X sh MI ML MR)[a]? = some (x_ad X a, .inl (X.2.2.1 kd, N, x_ac X MI ML MR a kd)) := by
  rw [x_ws_at hs]
  unfold x_cell
  rw [if_neg hc]

section XP
variable {p : Program} {l : Launch} {e : Env} {R : Room} {s : State} {m : MethodId} {args : Array Value} {below : List Frame} {meth : Method} {c : Code} {H : Heap} {locs : List Loc} {cells slots : Nat} {Q : State → Prop}
variable {cc : ByteArray} {pc : Nat} {la : Array Slot} {rest : List Value} {D : va_G} {A : Nat → Prop} {a : Nat} {tys : List (ClassId × FieldType)} {ws : va_W}
/-- a field may be written: it isn't final, or the constructor of its own class writes it -/
theorem x_may {own C O nm d : String} {cf fi : Nat} {kf : Class} {f : Field} {fin : Bool} (hown : s.vm.findClass own = some m.cls) (hf : s.fieldFound? O nm d = some (cf, kf, fi, f)) (hw : (if fin = true then Cond.laysFinal C O nm d else Cond.lays C O nm d).before args s = true) (h : fin = false ∨ (fin = true ∧ meth.name = "<init>" ∧ O = own)) : hasFlag f.accessFlags Acc.final = false ∨ (m.cls = cf ∧ meth.name = "<init>") := by
  rcases h with rfl | ⟨rfl, h1, rfl⟩
  · obtain ⟨z1, z2, z3, z4, z5, z6, -, -, w1, -, w2, -⟩ := Cond.lays_spec hw
    rw [hf] at w1
    cases w1
    exact Or.inl w2
  · obtain ⟨z1, z2, z3, z4, z5, z6, -, -, w1, -, -, -, w2, -⟩ := Cond.laysFinal_spec hw
    rw [hf] at w1
    cases w1
    rw [hown] at w2
    cases w2
    exact Or.inr ⟨rfl, h1⟩
/-- putfield, with the heap's size; final or not: one row serves both, W.putf -/
theorem x_put (hexec : p.tables.exec = Jvm.exec) (hb : c.code = cc) {own C : String} {T : u_T} {N ci index : Nat} {ty : Nat → FieldType} (hts : ∀ w ∈ x_T, w.before args s = true) (hC : x_C ci C T N ty) (hown : s.vm.findClass own = some m.cls) (hK : va_K D vwCl tys s) (hP : va_P D vwCl ws H) (hD : va_D A ws) (hS0 : va_S A s.heap H locs) (q0 : Nat) {fs : List Value} (he : ws[q0]? = some (a, .inr (ci, fs))) (k : Nat) (hk : k < N) (hlink : Cond.fieldLink own index (T k).1 (T k).2.1 (T k).2.2.1 ∈ x_T) (hfin : (T k).2.2.2 = false ∨ ((T k).2.2.2 = true ∧ meth.name = "<init>" ∧ (T k).1 = own)) {v : Value} (hn : narrow (ty k) v = v) (hfit : fits (ty k) v = true) (hl : k < fs.length) (hdg : decode cc pc = .ok (.putfield index, 3))
    (kk : ∀ (H1 : Heap) (locs1 : List Loc), va_P D vwCl (ws.set q0 (a, .inr (ci, fs.set k v))) H1 → va_S A s.heap H1 locs1 → H1.size = H.size → W p l e R s m args below meth c H1 locs1 cells slots Q (F0 m (pc + 3) la rest)) : W p l e R s m args below meth c H locs cells slots Q (F0 m pc la (v :: .ref a :: rest)) := by
  obtain ⟨zrow, zin, zty, znm⟩ := hC
  obtain ⟨zslots, zcls, zk, zkat, zord⟩ := hK.1 ci _ zrow
  obtain ⟨cf, kf, fi, f, zf, zeq⟩ := zslots k hk
  obtain ⟨zr, zrow2, zc, zat, zis, zvm, zv⟩ := hP q0 _ he
  obtain rfl : zr = (C, T, N) := by
    rw [zrow] at zrow2
    exact (Option.some.inj zrow2).symm
  have zlays := u_lays hts zin hk
  obtain ⟨znar, zfits⟩ := u_fits zcls zkat zord zlays zf (zty k hk) hn hfit
  have zin2 : a < H.size := (Array.getElem?_eq_some_iff.mp zat).1
  have zoth : ∀ q : Nat, q ≠ a → (H.setIfInBounds a (zc.setSlot f.slot v))[q]? = H[q]? := fun q hq => Array.getElem?_setIfInBounds_ne (Ne.symm hq)
  have zsz : (H.setIfInBounds a (zc.setSlot f.slot v)).size = H.size := Array.size_setIfInBounds
  have zself : (H.setIfInBounds a (zc.setSlot f.slot v))[a]? = some (zc.setSlot (D.2 ci k) v) := by
    rw [Array.getElem?_setIfInBounds_self_of_lt zin2, zeq]
  have zob : t_OB a (D.1 ci) N (D.2 ci) (H.setIfInBounds a (zc.setSlot f.slot v)) (vp_V (fs.set k v)) :=
    ⟨_, zself, zis, zvm, fun j hj => (t_set zv (va_apart (own := own) hts zin ty zty znm hK zrow) hk v j hj).trans (congrArg some (vp_updV_set hl v j))⟩
  refine W.putf hexec hb hown (hts _ hlink) zf (u_facts zcls zkat zlays zf).1 (x_may hown zf (hts _ (zin _ (u_in_lay hk))) hfin) zat ?_ ?_ znar ?_ rfl rfl hdg (kk _ _ (hP.set hD he ⟨_, zrow, zob⟩ zoth) (hS0.put zsz zoth (hD.2 q0 _ he)) zsz)
  · rw [zvm]
    exact nofun
  · rw [zeq]
    exact k2_hasslot (zv k hk)
  · rw [zvm, zis]
    exact zfits
end XP
section RWmem
variable {X : xG} {G : xM} {own : String} {cc : ByteArray} {nL : Nat} {R : Room} {n : Nat} {sh : List (Nat × Nat)} {MI : Nat → Nat → Int32} {ML : Nat → Nat → Int64} {MR : Nat → Nat → Option Nat} {cells slots pc : Nat} {ls : List (Nat × Value)} {st : List Value}
theorem r_geti {idx ci N a j : Nat} {fin : Bool} {fty : FieldType} (hd : decode cc pc = .ok (.getfield idx, 3)) (fl : x_FL own idx ci j N 0 fin fty) (hs : sh[a]? = some (ci, N)) (k : RW X G own cc nL R n sh MI ML MR cells slots (pc + 3) ls (.int (MI a j) :: st)) : RW X G own cc nL R n sh MI ML MR cells slots pc ls (.ref a :: st) := by
  obtain ⟨C, T, ty, ⟨c1, c2, -, -⟩, hj, hci, hl0, ht, -⟩ := fl
  obtain ⟨p, e, s, m, args, below, meth, c, rt, mn, Q⟩ := G
  intro O H locs la hP hL hS hl hn
  refine va_get (v := x_rv X (.int (MI a j))) O.1 O.2.1 O.2.2.2.2.1 c2 O.2.2.2.1 O.2.2.2.2.2.1.1 hP a (x_obj hs hci) c1 j hj (O.2.2.2.2.1 _ hl0) (fun _ h => h) ?_ hd (k O H locs la hP hL hS hl hn)
  rw [x_fs_at hj, ht]
  unfold x_fv
  simp [x_rv]
theorem r_getl {idx ci N a j : Nat} {fin : Bool} {fty : FieldType} (hd : decode cc pc = .ok (.getfield idx, 3)) (fl : x_FL own idx ci j N 1 fin fty) (hs : sh[a]? = some (ci, N)) (k : RW X G own cc nL R n sh MI ML MR cells slots (pc + 3) ls (.long (ML a j) :: st)) : RW X G own cc nL R n sh MI ML MR cells slots pc ls (.ref a :: st) := by
  obtain ⟨C, T, ty, ⟨c1, c2, -, -⟩, hj, hci, hl0, ht, -⟩ := fl
  obtain ⟨p, e, s, m, args, below, meth, c, rt, mn, Q⟩ := G
  intro O H locs la hP hL hS hl hn
  refine va_get (v := x_rv X (.long (ML a j))) O.1 O.2.1 O.2.2.2.2.1 c2 O.2.2.2.1 O.2.2.2.2.2.1.1 hP a (x_obj hs hci) c1 j hj (O.2.2.2.2.1 _ hl0) (fun _ h => h) ?_ hd (k O H locs la hP hL hS hl hn)
  rw [x_fs_at hj, ht]
  unfold x_fv
  simp [x_rv]
theorem r_getr {idx ci N a j b : Nat} {fin : Bool} {fty : FieldType} (hd : decode cc pc = .ok (.getfield idx, 3)) (fl : x_FL own idx ci j N 2 fin fty) (hs : sh[a]? = some (ci, N)) (hr : MR a j = some b) (k : RW X G own cc nL R n sh MI ML MR cells slots (pc + 3) ls (.ref b :: st)) : RW X G own cc nL R n sh MI ML MR cells slots pc ls (.ref a :: st) := by
  obtain ⟨C, T, ty, ⟨c1, c2, -, -⟩, hj, hci, hl0, ht, -⟩ := fl
  obtain ⟨p, e, s, m, args, below, meth, c, rt, mn, Q⟩ := G
  intro O H locs la hP hL hS hl hn
  refine va_get (v := x_rv X (.ref b)) O.1 O.2.1 O.2.2.2.2.1 c2 O.2.2.2.1 O.2.2.2.2.2.1.1 hP a (x_obj hs hci) c1 j hj (O.2.2.2.2.1 _ hl0) (fun _ h => h) ?_ hd (k O H locs la hP hL hS hl hn)
  rw [x_fs_at hj, ht]
  unfold x_fv
  simp [va_rf, hr, x_rv]
theorem r_puti {idx ci N a j : Nat} {x : Int32} {fty : FieldType} (hd : decode cc pc = .ok (.putfield idx, 3)) (fl : x_FL own idx ci j N 0 false fty) (hs : sh[a]? = some (ci, N)) (hnar : narrow fty (x_rv X (.int x)) = x_rv X (.int x)) (hfit : fits fty (x_rv X (.int x)) = true) (k : RW X G own cc nL R n sh (u2 MI a j x) ML MR cells slots (pc + 3) ls st) : RW X G own cc nL R n sh MI ML MR cells slots pc ls (.int x :: .ref a :: st) := by
  obtain ⟨C, T, ty, ⟨c1, c2, c3, c4⟩, hj, hci, hl0, ht, hfin, hty, hcl0⟩ := fl
  have hfv : x_fv X (u2 MI a j x) ML MR a (x_tf ci j) j = x_rv X (.int x) := by
    rw [ht]; unfold x_fv; simp [u2_eq, va_rf, x_rv]
  have hset : ∀ MI0 ML0 MR0, MI0 = MI → ML0 = ML → MR0 = MR → (x_ws X sh MI0 ML0 MR0).set a (x_ad X a, .inr (ci, (x_fs X MI0 ML0 MR0 a ci N).set j (x_rv X (.int x)))) = x_ws X sh (u2 MI a j x) ML MR := by
    intro MI0 ML0 MR0 e1 e2 e3
    subst e1; subst e2; subst e3
    refine x_ws_set hs ?_ (fun b hb => ?_) (fun b hb => ?_) (fun b hb => ?_)
    · unfold x_cell
      rw [if_pos hci]
      congr 2
      refine x_fs_set hj hfv (fun i hi => ?_)
      simp [u2, hi]
    all_goals first | rfl | exact u2_row _ _ hb
  obtain ⟨p, e, s, m, args, below, meth, c, rt, mn, Q⟩ := G
  intro O H locs la hP hL hS hl hn
  have hlen : j < (x_fs X MI ML MR a ci N).length := by rw [x_fs_len]; exact hj
  refine x_put O.1 O.2.1 O.2.2.2.2.1 ⟨c1, c2, c3, c4⟩ O.2.2.2.1 O.2.2.2.2.2.1.1 hP (x_D hL) hS a (x_obj hs hci) j hj hl0 (Or.inl hfin) (by rw [hty]; exact hnar) (by rw [hty]; exact hfit) hlen hd (fun H1 locs1 hP1 hS1 hz => ?_)
  rw [hset MI ML MR rfl rfl rfl] at hP1
  exact k O H1 locs1 la hP1 hL hS1 hl (fun q => by rw [hz]; exact hn q)
theorem r_putiF {idx ci N a j : Nat} {x : Int32} {fty : FieldType} (hd : decode cc pc = .ok (.putfield idx, 3)) (fl : x_FL own idx ci j N 0 true fty) (hs : sh[a]? = some (ci, N)) (hnar : narrow fty (x_rv X (.int x)) = x_rv X (.int x)) (hfit : fits fty (x_rv X (.int x)) = true) (hmn : G.2.2.2.2.2.2.2.2.2.1 = "<init>") (hcl : x_own ci = some own) (k : RW X G own cc nL R n sh (u2 MI a j x) ML MR cells slots (pc + 3) ls st) : RW X G own cc nL R n sh MI ML MR cells slots pc ls (.int x :: .ref a :: st) := by
  obtain ⟨C, T, ty, ⟨c1, c2, c3, c4⟩, hj, hci, hl0, ht, hfin, hty, hcl0⟩ := fl
  have hfv : x_fv X (u2 MI a j x) ML MR a (x_tf ci j) j = x_rv X (.int x) := by
    rw [ht]; unfold x_fv; simp [u2_eq, va_rf, x_rv]
  have hset : ∀ MI0 ML0 MR0, MI0 = MI → ML0 = ML → MR0 = MR → (x_ws X sh MI0 ML0 MR0).set a (x_ad X a, .inr (ci, (x_fs X MI0 ML0 MR0 a ci N).set j (x_rv X (.int x)))) = x_ws X sh (u2 MI a j x) ML MR := by
    intro MI0 ML0 MR0 e1 e2 e3
    subst e1; subst e2; subst e3
    refine x_ws_set hs ?_ (fun b hb => ?_) (fun b hb => ?_) (fun b hb => ?_)
    · unfold x_cell
      rw [if_pos hci]
      congr 2
      refine x_fs_set hj hfv (fun i hi => ?_)
      simp [u2, hi]
    all_goals first | rfl | exact u2_row _ _ hb
  have hown2 : (T j).1 = own := by
    have h1 : x_own ci = some C := by unfold x_own; rw [c1]; rfl
    rw [hcl0]
    exact Option.some.inj (h1.symm.trans hcl)
  obtain ⟨p, e, s, m, args, below, meth, c, rt, mn, Q⟩ := G
  intro O H locs la hP hL hS hl hn
  have hlen : j < (x_fs X MI ML MR a ci N).length := by rw [x_fs_len]; exact hj
  refine x_put O.1 O.2.1 O.2.2.2.2.1 ⟨c1, c2, c3, c4⟩ O.2.2.2.1 O.2.2.2.2.2.1.1 hP (x_D hL) hS a (x_obj hs hci) j hj hl0 (Or.inr ⟨hfin, O.2.2.2.2.2.2.2.2.trans hmn, hown2⟩) (by rw [hty]; exact hnar) (by rw [hty]; exact hfit) hlen hd (fun H1 locs1 hP1 hS1 hz => ?_)
  rw [hset MI ML MR rfl rfl rfl] at hP1
  exact k O H1 locs1 la hP1 hL hS1 hl (fun q => by rw [hz]; exact hn q)
theorem r_putl {idx ci N a j : Nat} {x : Int64} {fty : FieldType} (hd : decode cc pc = .ok (.putfield idx, 3)) (fl : x_FL own idx ci j N 1 false fty) (hs : sh[a]? = some (ci, N)) (hnar : narrow fty (x_rv X (.long x)) = x_rv X (.long x)) (hfit : fits fty (x_rv X (.long x)) = true) (k : RW X G own cc nL R n sh MI (u2 ML a j x) MR cells slots (pc + 3) ls st) : RW X G own cc nL R n sh MI ML MR cells slots pc ls (.long x :: .ref a :: st) := by
  obtain ⟨C, T, ty, ⟨c1, c2, c3, c4⟩, hj, hci, hl0, ht, hfin, hty, hcl0⟩ := fl
  have hfv : x_fv X MI (u2 ML a j x) MR a (x_tf ci j) j = x_rv X (.long x) := by
    rw [ht]; unfold x_fv; simp [u2_eq, va_rf, x_rv]
  have hset : ∀ MI0 ML0 MR0, MI0 = MI → ML0 = ML → MR0 = MR → (x_ws X sh MI0 ML0 MR0).set a (x_ad X a, .inr (ci, (x_fs X MI0 ML0 MR0 a ci N).set j (x_rv X (.long x)))) = x_ws X sh MI (u2 ML a j x) MR := by
    intro MI0 ML0 MR0 e1 e2 e3
    subst e1; subst e2; subst e3
    refine x_ws_set hs ?_ (fun b hb => ?_) (fun b hb => ?_) (fun b hb => ?_)
    · unfold x_cell
      rw [if_pos hci]
      congr 2
      refine x_fs_set hj hfv (fun i hi => ?_)
      simp [u2, hi]
    all_goals first | rfl | exact u2_row _ _ hb
  obtain ⟨p, e, s, m, args, below, meth, c, rt, mn, Q⟩ := G
  intro O H locs la hP hL hS hl hn
  have hlen : j < (x_fs X MI ML MR a ci N).length := by rw [x_fs_len]; exact hj
  refine x_put O.1 O.2.1 O.2.2.2.2.1 ⟨c1, c2, c3, c4⟩ O.2.2.2.1 O.2.2.2.2.2.1.1 hP (x_D hL) hS a (x_obj hs hci) j hj hl0 (Or.inl hfin) (by rw [hty]; exact hnar) (by rw [hty]; exact hfit) hlen hd (fun H1 locs1 hP1 hS1 hz => ?_)
  rw [hset MI ML MR rfl rfl rfl] at hP1
  exact k O H1 locs1 la hP1 hL hS1 hl (fun q => by rw [hz]; exact hn q)
theorem r_putlF {idx ci N a j : Nat} {x : Int64} {fty : FieldType} (hd : decode cc pc = .ok (.putfield idx, 3)) (fl : x_FL own idx ci j N 1 true fty) (hs : sh[a]? = some (ci, N)) (hnar : narrow fty (x_rv X (.long x)) = x_rv X (.long x)) (hfit : fits fty (x_rv X (.long x)) = true) (hmn : G.2.2.2.2.2.2.2.2.2.1 = "<init>") (hcl : x_own ci = some own) (k : RW X G own cc nL R n sh MI (u2 ML a j x) MR cells slots (pc + 3) ls st) : RW X G own cc nL R n sh MI ML MR cells slots pc ls (.long x :: .ref a :: st) := by
  obtain ⟨C, T, ty, ⟨c1, c2, c3, c4⟩, hj, hci, hl0, ht, hfin, hty, hcl0⟩ := fl
  have hfv : x_fv X MI (u2 ML a j x) MR a (x_tf ci j) j = x_rv X (.long x) := by
    rw [ht]; unfold x_fv; simp [u2_eq, va_rf, x_rv]
  have hset : ∀ MI0 ML0 MR0, MI0 = MI → ML0 = ML → MR0 = MR → (x_ws X sh MI0 ML0 MR0).set a (x_ad X a, .inr (ci, (x_fs X MI0 ML0 MR0 a ci N).set j (x_rv X (.long x)))) = x_ws X sh MI (u2 ML a j x) MR := by
    intro MI0 ML0 MR0 e1 e2 e3
    subst e1; subst e2; subst e3
    refine x_ws_set hs ?_ (fun b hb => ?_) (fun b hb => ?_) (fun b hb => ?_)
    · unfold x_cell
      rw [if_pos hci]
      congr 2
      refine x_fs_set hj hfv (fun i hi => ?_)
      simp [u2, hi]
    all_goals first | rfl | exact u2_row _ _ hb
  have hown2 : (T j).1 = own := by
    have h1 : x_own ci = some C := by unfold x_own; rw [c1]; rfl
    rw [hcl0]
    exact Option.some.inj (h1.symm.trans hcl)
  obtain ⟨p, e, s, m, args, below, meth, c, rt, mn, Q⟩ := G
  intro O H locs la hP hL hS hl hn
  have hlen : j < (x_fs X MI ML MR a ci N).length := by rw [x_fs_len]; exact hj
  refine x_put O.1 O.2.1 O.2.2.2.2.1 ⟨c1, c2, c3, c4⟩ O.2.2.2.1 O.2.2.2.2.2.1.1 hP (x_D hL) hS a (x_obj hs hci) j hj hl0 (Or.inr ⟨hfin, O.2.2.2.2.2.2.2.2.trans hmn, hown2⟩) (by rw [hty]; exact hnar) (by rw [hty]; exact hfit) hlen hd (fun H1 locs1 hP1 hS1 hz => ?_)
  rw [hset MI ML MR rfl rfl rfl] at hP1
  exact k O H1 locs1 la hP1 hL hS1 hl (fun q => by rw [hz]; exact hn q)
theorem r_putr {idx ci N a j : Nat} {x : Nat} {fty : FieldType} (hd : decode cc pc = .ok (.putfield idx, 3)) (fl : x_FL own idx ci j N 2 false fty) (hs : sh[a]? = some (ci, N)) (hnar : narrow fty (x_rv X (.ref x)) = x_rv X (.ref x)) (hfit : fits fty (x_rv X (.ref x)) = true) (k : RW X G own cc nL R n sh MI ML (u2 MR a j (some x)) cells slots (pc + 3) ls st) : RW X G own cc nL R n sh MI ML MR cells slots pc ls (.ref x :: .ref a :: st) := by
  obtain ⟨C, T, ty, ⟨c1, c2, c3, c4⟩, hj, hci, hl0, ht, hfin, hty, hcl0⟩ := fl
  have hfv : x_fv X MI ML (u2 MR a j (some x)) a (x_tf ci j) j = x_rv X (.ref x) := by
    rw [ht]; unfold x_fv; simp [u2_eq, va_rf, x_rv]
  have hset : ∀ MI0 ML0 MR0, MI0 = MI → ML0 = ML → MR0 = MR → (x_ws X sh MI0 ML0 MR0).set a (x_ad X a, .inr (ci, (x_fs X MI0 ML0 MR0 a ci N).set j (x_rv X (.ref x)))) = x_ws X sh MI ML (u2 MR a j (some x)) := by
    intro MI0 ML0 MR0 e1 e2 e3
    subst e1; subst e2; subst e3
    refine x_ws_set hs ?_ (fun b hb => ?_) (fun b hb => ?_) (fun b hb => ?_)
    · unfold x_cell
      rw [if_pos hci]
      congr 2
      refine x_fs_set hj hfv (fun i hi => ?_)
      simp [u2, hi]
    all_goals first | rfl | exact u2_row _ _ hb
  obtain ⟨p, e, s, m, args, below, meth, c, rt, mn, Q⟩ := G
  intro O H locs la hP hL hS hl hn
  have hlen : j < (x_fs X MI ML MR a ci N).length := by rw [x_fs_len]; exact hj
  refine x_put O.1 O.2.1 O.2.2.2.2.1 ⟨c1, c2, c3, c4⟩ O.2.2.2.1 O.2.2.2.2.2.1.1 hP (x_D hL) hS a (x_obj hs hci) j hj hl0 (Or.inl hfin) (by rw [hty]; exact hnar) (by rw [hty]; exact hfit) hlen hd (fun H1 locs1 hP1 hS1 hz => ?_)
  rw [hset MI ML MR rfl rfl rfl] at hP1
  exact k O H1 locs1 la hP1 hL hS1 hl (fun q => by rw [hz]; exact hn q)
theorem r_putrF {idx ci N a j : Nat} {x : Nat} {fty : FieldType} (hd : decode cc pc = .ok (.putfield idx, 3)) (fl : x_FL own idx ci j N 2 true fty) (hs : sh[a]? = some (ci, N)) (hnar : narrow fty (x_rv X (.ref x)) = x_rv X (.ref x)) (hfit : fits fty (x_rv X (.ref x)) = true) (hmn : G.2.2.2.2.2.2.2.2.2.1 = "<init>") (hcl : x_own ci = some own) (k : RW X G own cc nL R n sh MI ML (u2 MR a j (some x)) cells slots (pc + 3) ls st) : RW X G own cc nL R n sh MI ML MR cells slots pc ls (.ref x :: .ref a :: st) := by
  obtain ⟨C, T, ty, ⟨c1, c2, c3, c4⟩, hj, hci, hl0, ht, hfin, hty, hcl0⟩ := fl
  have hfv : x_fv X MI ML (u2 MR a j (some x)) a (x_tf ci j) j = x_rv X (.ref x) := by
    rw [ht]; unfold x_fv; simp [u2_eq, va_rf, x_rv]
  have hset : ∀ MI0 ML0 MR0, MI0 = MI → ML0 = ML → MR0 = MR → (x_ws X sh MI0 ML0 MR0).set a (x_ad X a, .inr (ci, (x_fs X MI0 ML0 MR0 a ci N).set j (x_rv X (.ref x)))) = x_ws X sh MI ML (u2 MR a j (some x)) := by
    intro MI0 ML0 MR0 e1 e2 e3
    subst e1; subst e2; subst e3
    refine x_ws_set hs ?_ (fun b hb => ?_) (fun b hb => ?_) (fun b hb => ?_)
    · unfold x_cell
      rw [if_pos hci]
      congr 2
      refine x_fs_set hj hfv (fun i hi => ?_)
      simp [u2, hi]
    all_goals first | rfl | exact u2_row _ _ hb
  have hown2 : (T j).1 = own := by
    have h1 : x_own ci = some C := by unfold x_own; rw [c1]; rfl
    rw [hcl0]
    exact Option.some.inj (h1.symm.trans hcl)
  obtain ⟨p, e, s, m, args, below, meth, c, rt, mn, Q⟩ := G
  intro O H locs la hP hL hS hl hn
  have hlen : j < (x_fs X MI ML MR a ci N).length := by rw [x_fs_len]; exact hj
  refine x_put O.1 O.2.1 O.2.2.2.2.1 ⟨c1, c2, c3, c4⟩ O.2.2.2.1 O.2.2.2.2.2.1.1 hP (x_D hL) hS a (x_obj hs hci) j hj hl0 (Or.inr ⟨hfin, O.2.2.2.2.2.2.2.2.trans hmn, hown2⟩) (by rw [hty]; exact hnar) (by rw [hty]; exact hfit) hlen hd (fun H1 locs1 hP1 hS1 hz => ?_)
  rw [hset MI ML MR rfl rfl rfl] at hP1
  exact k O H1 locs1 la hP1 hL hS1 hl (fun q => by rw [hz]; exact hn q)
theorem r_iald {N a : Nat} {i : Int32} (hd : decode cc pc = .ok (.iaload, 1)) (hs : sh[a]? = some (13, N)) (hi : vp_in i N) (k : RW X G own cc nL R n sh MI ML MR cells slots (pc + 1) ls (.int (MI a i.toNatClampNeg) :: st)) : RW X G own cc nL R n sh MI ML MR cells slots pc ls (.int i :: .ref a :: st) := by
  obtain ⟨p, e, s, m, args, below, meth, c, rt, mn, Q⟩ := G
  intro O H locs la hP hL hS hl hn
  exact va_iald O.1 O.2.1 O.2.2.2.2.2.1.1 hP a 1 (x_arr hs (by decide)) rfl hi hd (k O H locs la hP hL hS hl hn)
theorem r_bald {N a : Nat} {i : Int32} (hd : decode cc pc = .ok (.baload, 1)) (hs : sh[a]? = some (12, N)) (hi : vp_in i N) (k : RW X G own cc nL R n sh MI ML MR cells slots (pc + 1) ls (.int (MI a i.toNatClampNeg) :: st)) : RW X G own cc nL R n sh MI ML MR cells slots pc ls (.int i :: .ref a :: st) := by
  obtain ⟨p, e, s, m, args, below, meth, c, rt, mn, Q⟩ := G
  intro O H locs la hP hL hS hl hn
  exact va_bald O.1 O.2.1 O.2.2.2.2.2.1.1 hP a 0 (x_arr hs (by decide)) rfl hi hd (k O H locs la hP hL hS hl hn)
theorem r_zald {N a : Nat} {i : Int32} (hd : decode cc pc = .ok (.baload, 1)) (hs : sh[a]? = some (15, N)) (hi : vp_in i N) (k : RW X G own cc nL R n sh MI ML MR cells slots (pc + 1) ls (.int (MI a i.toNatClampNeg) :: st)) : RW X G own cc nL R n sh MI ML MR cells slots pc ls (.int i :: .ref a :: st) := by
  obtain ⟨p, e, s, m, args, below, meth, c, rt, mn, Q⟩ := G
  intro O H locs la hP hL hS hl hn
  exact va_zald O.1 O.2.1 O.2.2.2.2.2.1.1 hP a 3 (x_arr hs (by decide)) rfl hi hd (k O H locs la hP hL hS hl hn)
theorem r_lald {N a : Nat} {i : Int32} (hd : decode cc pc = .ok (.laload, 1)) (hs : sh[a]? = some (14, N)) (hi : vp_in i N) (k : RW X G own cc nL R n sh MI ML MR cells slots (pc + 1) ls (.long (ML a i.toNatClampNeg) :: st)) : RW X G own cc nL R n sh MI ML MR cells slots pc ls (.int i :: .ref a :: st) := by
  obtain ⟨p, e, s, m, args, below, meth, c, rt, mn, Q⟩ := G
  intro O H locs la hP hL hS hl hn
  exact va_lald O.1 O.2.1 O.2.2.2.2.2.1.1 hP a 2 (x_arr hs (by decide)) rfl hi hd (k O H locs la hP hL hS hl hn)
theorem r_alen {N a kd : Nat} {v : Int32} (hd : decode cc pc = .ok (.arraylength, 1)) (hs : sh[a]? = some (kd, N)) (hk : ¬ kd < 12 ∧ kd < 19) (hv : Int32.ofNat N = v) (k : RW X G own cc nL R n sh MI ML MR cells slots (pc + 1) ls (.int v :: st)) : RW X G own cc nL R n sh MI ML MR cells slots pc ls (.ref a :: st) := by
  obtain ⟨p, e, s, m, args, below, meth, c, rt, mn, Q⟩ := G
  intro O H locs la hP hL hS hl hn
  have ht : ∃ ty, (x_tys X)[kd - 12]? = some (X.2.2.1 kd, ty) := by
    rcases (show kd = 12 ∨ kd = 13 ∨ kd = 14 ∨ kd = 15 ∨ kd = 16 ∨ kd = 17 ∨ kd = 18 by omega) with h | h | h | h | h | h | h <;> subst h <;> exact ⟨_, rfl⟩
  obtain ⟨ty, ht⟩ := ht
  exact va_alen O.1 O.2.1 O.2.2.2.2.2.1.1 hP a (kd - 12) (x_arr hs hk.1) ht hv hd (k O H locs la hP hL hS hl hn)
theorem r_aald {N a b kd : Nat} {i : Int32} (hd : decode cc pc = .ok (.aaload, 1)) (hs : sh[a]? = some (kd, N)) (hk : kd = 16 ∨ kd = 17 ∨ kd = 18) (hi : vp_in i N) (hr : MR a i.toNatClampNeg = some b) (k : RW X G own cc nL R n sh MI ML MR cells slots (pc + 1) ls (.ref b :: st)) : RW X G own cc nL R n sh MI ML MR cells slots pc ls (.int i :: .ref a :: st) := by
  obtain ⟨p, e, s, m, args, below, meth, c, rt, mn, Q⟩ := G
  intro O H locs la hP hL hS hl hn
  have ht : ∃ ty, (x_tys X)[kd - 12]? = some (X.2.2.1 kd, ty) ∧ ty.isReference = true := by
    rcases hk with h | h | h <;> subst h <;> exact ⟨_, rfl, rfl⟩
  obtain ⟨ty, ht, hrf⟩ := ht
  have hlt : i.toNatClampNeg < N := Nat.not_le.mp fun q => hi (Or.inr q)
  have hac : x_ac X MI ML MR a kd = .inr (.inr (.inr (.inr (fun j => (MR a j).map (x_ad X))))) := by
    unfold x_ac
    rw [if_neg (by omega), if_neg (by omega)]
  have hc := hP a _ (x_arr hs (by omega))
  rw [hac] at hc
  exact W.aald (v := .ref (x_ad X b)) (ty := ty) O.1 O.2.1 hc ((O.2.2.2.2.2.1.1.2 (kd - 12) _ ht).1 N (fun j => va_rf ((MR a j).map (x_ad X)))) hrf (fun q => by cases q) (by show ¬ (i < 0 ∨ (arrV _ _ _).slots.size ≤ _); rw [arrV_size]; exact hi) (by show (arrV _ _ _).slots[_]? = _; rw [arrV_read _ _ hlt]; show some (va_rf ((MR a i.toNatClampNeg).map (x_ad X))) = _; rw [hr]; rfl) rfl rfl hd (k O H locs la hP hL hS hl hn)
theorem r_iast {N a : Nat} {i : Int32} {x : Int32} (hd : decode cc pc = .ok (.iastore, 1)) (hs : sh[a]? = some (13, N)) (hi : vp_in i N) (k : RW X G own cc nL R n sh (u2 MI a i.toNatClampNeg x) ML MR cells slots (pc + 1) ls st) : RW X G own cc nL R n sh MI ML MR cells slots pc ls (.int x :: .int i :: .ref a :: st) := by
  obtain ⟨p, e, s, m, args, below, meth, c, rt, mn, Q⟩ := G
  intro O H locs la hP hL hS hl hn
  have hlt : i.toNatClampNeg < N := Nat.not_le.mp fun q => hi (Or.inr q)
  have hc := hP a _ (x_arr hs (by decide))
  refine W.iast O.1 O.2.1 hc ((O.2.2.2.2.2.1.1.2 1 _ rfl).1 N (fun j => .int (MI a j))) (fun q => by cases q) (by show ¬ (i < 0 ∨ (arrV _ _ _).slots.size ≤ _); rw [arrV_size]; exact hi) rfl rfl hd (fun H1 e z oq => ?_)
  have hset : (x_ws X sh MI ML MR).set a (x_ad X a, .inl (X.2.2.1 13, N, x_ac X (u2 MI a i.toNatClampNeg x) ML MR a 13)) = x_ws X sh (u2 MI a i.toNatClampNeg x) ML MR := by
    refine x_ws_set hs ?_ (fun b hb => ?_) (fun b hb => ?_) (fun b hb => rfl)
    · unfold x_cell
      rw [if_neg (show ¬ ((13, N) : Nat × Nat).1 < 12 from (by decide : ¬ (13 : Nat) < 12))]
    all_goals first | rfl | exact u2_row _ _ hb
  have hP1 := hP.set (x_D hL) (x_arr hs (by decide)) (e := .inl (X.2.2.1 13, N, x_ac X (u2 MI a i.toNatClampNeg x) ML MR a 13)) (H1 := H1) ?_ oq
  · rw [hset] at hP1
    exact k O H1 _ la hP1 hL (hS.put z oq ((x_D (MI := MI) (ML := ML) (MR := MR) hL).2 a _ (x_arr hs (by decide)))) hl (fun q => by rw [z]; exact hn q)
  · show H1[x_ad X a]? = some (vp_cell _ _)
    rw [e]
    show some ((arrV (X.2.2.1 13) N (fun j => .int (MI a j))).setSlot _ _) = some (arrV (X.2.2.1 13) N (fun j => .int ((u2 MI a i.toNatClampNeg x) a j)))
    rw [arrV_store]
    congr 2
    funext q
    by_cases hq : q = i.toNatClampNeg
    · subst hq
      simp [updV, u2, vp_nar, narrow]
    · simp [updV, u2, hq]
theorem r_bast {N a : Nat} {i : Int32} {x : Int32} (hd : decode cc pc = .ok (.bastore, 1)) (hs : sh[a]? = some (12, N)) (hi : vp_in i N) (k : RW X G own cc nL R n sh (u2 MI a i.toNatClampNeg (vp_nar .byte x)) ML MR cells slots (pc + 1) ls st) : RW X G own cc nL R n sh MI ML MR cells slots pc ls (.int x :: .int i :: .ref a :: st) := by
  obtain ⟨p, e, s, m, args, below, meth, c, rt, mn, Q⟩ := G
  intro O H locs la hP hL hS hl hn
  have hlt : i.toNatClampNeg < N := Nat.not_le.mp fun q => hi (Or.inr q)
  have hc := hP a _ (x_arr hs (by decide))
  refine W.bast O.1 O.2.1 hc ((O.2.2.2.2.2.1.1.2 0 _ rfl).1 N (fun j => .int (MI a j))) (fun q => by cases q) (by show ¬ (i < 0 ∨ (arrV _ _ _).slots.size ≤ _); rw [arrV_size]; exact hi) rfl rfl hd (fun H1 e z oq => ?_)
  have hset : (x_ws X sh MI ML MR).set a (x_ad X a, .inl (X.2.2.1 12, N, x_ac X (u2 MI a i.toNatClampNeg (vp_nar .byte x)) ML MR a 12)) = x_ws X sh (u2 MI a i.toNatClampNeg (vp_nar .byte x)) ML MR := by
    refine x_ws_set hs ?_ (fun b hb => ?_) (fun b hb => ?_) (fun b hb => rfl)
    · unfold x_cell
      rw [if_neg (show ¬ ((12, N) : Nat × Nat).1 < 12 from (by decide : ¬ (12 : Nat) < 12))]
    all_goals first | rfl | exact u2_row _ _ hb
  have hP1 := hP.set (x_D hL) (x_arr hs (by decide)) (e := .inl (X.2.2.1 12, N, x_ac X (u2 MI a i.toNatClampNeg (vp_nar .byte x)) ML MR a 12)) (H1 := H1) ?_ oq
  · rw [hset] at hP1
    exact k O H1 _ la hP1 hL (hS.put z oq ((x_D (MI := MI) (ML := ML) (MR := MR) hL).2 a _ (x_arr hs (by decide)))) hl (fun q => by rw [z]; exact hn q)
  · show H1[x_ad X a]? = some (vp_cell _ _)
    rw [e]
    show some ((arrV (X.2.2.1 12) N (fun j => .int (MI a j))).setSlot _ _) = some (arrV (X.2.2.1 12) N (fun j => .int ((u2 MI a i.toNatClampNeg (vp_nar .byte x)) a j)))
    rw [arrV_store]
    congr 2
    funext q
    by_cases hq : q = i.toNatClampNeg
    · subst hq
      simp [updV, u2, vp_nar, narrow]
    · simp [updV, u2, hq]
theorem r_zast {N a : Nat} {i : Int32} {x : Int32} (hd : decode cc pc = .ok (.bastore, 1)) (hs : sh[a]? = some (15, N)) (hi : vp_in i N) (k : RW X G own cc nL R n sh (u2 MI a i.toNatClampNeg (vp_nar .boolean x)) ML MR cells slots (pc + 1) ls st) : RW X G own cc nL R n sh MI ML MR cells slots pc ls (.int x :: .int i :: .ref a :: st) := by
  obtain ⟨p, e, s, m, args, below, meth, c, rt, mn, Q⟩ := G
  intro O H locs la hP hL hS hl hn
  have hlt : i.toNatClampNeg < N := Nat.not_le.mp fun q => hi (Or.inr q)
  have hc := hP a _ (x_arr hs (by decide))
  refine W.zast O.1 O.2.1 hc ((O.2.2.2.2.2.1.1.2 3 _ rfl).1 N (fun j => .int (MI a j))) (fun q => by cases q) (by show ¬ (i < 0 ∨ (arrV _ _ _).slots.size ≤ _); rw [arrV_size]; exact hi) rfl rfl hd (fun H1 e z oq => ?_)
  have hset : (x_ws X sh MI ML MR).set a (x_ad X a, .inl (X.2.2.1 15, N, x_ac X (u2 MI a i.toNatClampNeg (vp_nar .boolean x)) ML MR a 15)) = x_ws X sh (u2 MI a i.toNatClampNeg (vp_nar .boolean x)) ML MR := by
    refine x_ws_set hs ?_ (fun b hb => ?_) (fun b hb => ?_) (fun b hb => rfl)
    · unfold x_cell
      rw [if_neg (show ¬ ((15, N) : Nat × Nat).1 < 12 from (by decide : ¬ (15 : Nat) < 12))]
    all_goals first | rfl | exact u2_row _ _ hb
  have hP1 := hP.set (x_D hL) (x_arr hs (by decide)) (e := .inl (X.2.2.1 15, N, x_ac X (u2 MI a i.toNatClampNeg (vp_nar .boolean x)) ML MR a 15)) (H1 := H1) ?_ oq
  · rw [hset] at hP1
    exact k O H1 _ la hP1 hL (hS.put z oq ((x_D (MI := MI) (ML := ML) (MR := MR) hL).2 a _ (x_arr hs (by decide)))) hl (fun q => by rw [z]; exact hn q)
  · show H1[x_ad X a]? = some (vp_cell _ _)
    rw [e]
    show some ((arrV (X.2.2.1 15) N (fun j => .int (MI a j))).setSlot _ _) = some (arrV (X.2.2.1 15) N (fun j => .int ((u2 MI a i.toNatClampNeg (vp_nar .boolean x)) a j)))
    rw [arrV_store]
    congr 2
    funext q
    by_cases hq : q = i.toNatClampNeg
    · subst hq
      simp [updV, u2, vp_nar, narrow]
    · simp [updV, u2, hq]
theorem r_last {N a : Nat} {i : Int32} {x : Int64} (hd : decode cc pc = .ok (.lastore, 1)) (hs : sh[a]? = some (14, N)) (hi : vp_in i N) (k : RW X G own cc nL R n sh MI (u2 ML a i.toNatClampNeg x) MR cells slots (pc + 1) ls st) : RW X G own cc nL R n sh MI ML MR cells slots pc ls (.long x :: .int i :: .ref a :: st) := by
  obtain ⟨p, e, s, m, args, below, meth, c, rt, mn, Q⟩ := G
  intro O H locs la hP hL hS hl hn
  have hlt : i.toNatClampNeg < N := Nat.not_le.mp fun q => hi (Or.inr q)
  have hc := hP a _ (x_arr hs (by decide))
  refine W.last O.1 O.2.1 hc ((O.2.2.2.2.2.1.1.2 2 _ rfl).1 N (fun j => .long (ML a j))) (fun q => by cases q) (by show ¬ (i < 0 ∨ (arrV _ _ _).slots.size ≤ _); rw [arrV_size]; exact hi) rfl rfl hd (fun H1 e z oq => ?_)
  have hset : (x_ws X sh MI ML MR).set a (x_ad X a, .inl (X.2.2.1 14, N, x_ac X MI (u2 ML a i.toNatClampNeg x) MR a 14)) = x_ws X sh MI (u2 ML a i.toNatClampNeg x) MR := by
    refine x_ws_set hs ?_ (fun b hb => ?_) (fun b hb => ?_) (fun b hb => rfl)
    · unfold x_cell
      rw [if_neg (show ¬ ((14, N) : Nat × Nat).1 < 12 from (by decide : ¬ (14 : Nat) < 12))]
    all_goals first | rfl | exact u2_row _ _ hb
  have hP1 := hP.set (x_D hL) (x_arr hs (by decide)) (e := .inl (X.2.2.1 14, N, x_ac X MI (u2 ML a i.toNatClampNeg x) MR a 14)) (H1 := H1) ?_ oq
  · rw [hset] at hP1
    exact k O H1 _ la hP1 hL (hS.put z oq ((x_D (MI := MI) (ML := ML) (MR := MR) hL).2 a _ (x_arr hs (by decide)))) hl (fun q => by rw [z]; exact hn q)
  · show H1[x_ad X a]? = some (vp_cell _ _)
    rw [e]
    show some ((arrV (X.2.2.1 14) N (fun j => .long (ML a j))).setSlot _ _) = some (arrV (X.2.2.1 14) N (fun j => .long ((u2 ML a i.toNatClampNeg x) a j)))
    rw [arrV_store]
    congr 2
    funext q
    by_cases hq : q = i.toNatClampNeg
    · subst hq
      simp [updV, u2, vp_nar, narrow]
    · simp [updV, u2, hq]
end RWmem
def x_rm (d mc ms : Nat) : Room := { frames := d, cells := mc, slots := ms, locals := 64 * d }
def x_fit (R : Room) (d nL mc ms cells slots : Nat) : Bool := decide (d + 1 ≤ R.frames) && decide (8 + (nL + 11) + 64 * d ≤ R.locals) && decide (cells + mc ≤ R.cells) && decide (slots + ms ≤ R.slots)
theorem x_fit_spec {R : Room} {d nL mc ms cells slots : Nat} (h : x_fit R d nL mc ms cells slots = true) : (d + 1 ≤ R.frames ∧ 8 + (nL + 11) + 64 * d ≤ R.locals) ∧ cells + mc ≤ R.cells ∧ slots + ms ≤ R.slots := by
  unfold x_fit at h
  simp only [Bool.and_eq_true, decide_eq_true_eq] at h
  exact ⟨⟨h.1.1.1, h.1.1.2⟩, h.1.2, h.2⟩
abbrev xQ : Type := Option Value → (Nat → Nat → Int32) → (Nat → Nat → Int64) → (Nat → Nat → Option Nat) → Prop
def x_Q (X : xG) (n : Nat) (sh : List (Nat × Nat)) (Qv : xQ) : Array Value → State → Outcome → State → Prop := fun _ st oc t => (∃ (r : Option Value) (MI : Nat → Nat → Int32) (ML : Nat → Nat → Int64) (MR : Nat → Nat → Option Nat), oc = .returned (r.map (x_rv X)) ∧ Qv r MI ML MR ∧ x_Wd X n sh MI ML MR t) ∧ va_F (x_A X) st t
/-- A CONTRACT: method y, of depth d, making mc cells of ms slots, from the memory MI ML MR (kinds sh), with as: comes back with Qv, kinds sh' -/
def Ct (X : xG) (y : MethodName) (cc : ByteArray) (nL : Nat) (rt : Option FieldType) (d mc ms : Nat) (as : List Value) (n : Nat) (sh : List (Nat × Nat)) (MI : Nat → Nat → Int32) (ML : Nat → Nat → Int64) (MR : Nat → Nat → Option Nat) (n' : Nat) (sh' : List (Nat × Nat)) (Qv : xQ) : Prop := Met X.1 y (.code y cc nL rt :: x_T) (x_rm d mc ms) (va_Pc (as.map (x_rv X)) (x_Wd X n sh MI ML MR)) (x_Q X n' sh' Qv) mc ms (x_A X)
abbrev Cf (X : xG) (y : MethodName) (cc : ByteArray) (nL : Nat) (rt : Option FieldType) (d : Nat) (as : List Value) (n : Nat) (sh : List (Nat × Nat)) (MI : Nat → Nat → Int32) (ML : Nat → Nat → Int64) (MR : Nat → Nat → Option Nat) (r : Option Value) (MI' : Nat → Nat → Int32) (ML' : Nat → Nat → Int64) (MR' : Nat → Nat → Option Nat) : Prop := Ct X y cc nL rt d 0 0 as n sh MI ML MR n sh (fun r0 A B C => r0 = r ∧ A = MI' ∧ B = ML' ∧ C = MR')
def x_GI (X : xG) (G : xM) (rt : Option FieldType) (mn : String) (n : Nat) (sh : List (Nat × Nat)) (mc ms : Nat) (Qv : xQ) : Prop := match G with
  | (_, _, s, _, args, below, _, _, rt0, mn0, Q) => rt0 = rt ∧ mn0 = mn ∧ Q = MQ below (x_Q X n sh Qv) args s mc ms (x_A X)
theorem x_Env_moved {X : xG} {s t : State} {H : Heap} {locs : List Loc} (E : x_Env X s) (hS : va_S (x_A X) s.heap H locs) (ht : t.heap = H) (hW : s.WarmedH t.vm) : x_Env X t := by
  obtain ⟨e1, e2, e3, e4, e5, e6⟩ := E
  refine ⟨va_K.moved hW.alike e1, fun a i y h hw => va_Nw.warmM hW (e2 a i y h hw), e3.trans hW.alike, by rw [ht]; exact Nat.le_trans e4 hS.1, fun q hq => ?_, fun a i tx hw => vk_R.warm hW (e6 a i tx hw)⟩
  rw [ht, hS.2.1 q (Nat.lt_of_lt_of_le hq e4) (Nat.not_le.mpr hq)]
  exact e5 q hq
theorem x_Env_blind {X : xG} {U : State} {g : JFrame} {mk : MethodId} {a : Array Value} (E : x_Env X U) : x_Env X (U.calling g mk a) := by
  obtain ⟨e1, e2, e3, e4, e5, e6⟩ := E
  exact ⟨va_K.moved (u := U) (U := U.calling g mk a) (Vm.Alike.refl U.vm) e1, fun b i y h hw => va_Nw.same rfl (rfl : U.vm = (U.calling g mk a).vm) (e2 b i y h hw), e3, e4, e5, fun b i tx hw => vk_R.same rfl (e6 b i tx hw)⟩
theorem x_blind {X : xG} {as : List Value} {n : Nat} {sh : List (Nat × Nat)} {MI : Nat → Nat → Int32} {ML : Nat → Nat → Int64} {MR : Nat → Nat → Option Nat} : FrameBlind (va_Pc as (x_Wd X n sh MI ML MR)) := fun a U g mk q => ⟨q.1, q.2.1, q.2.2.1, q.2.2.2.1, x_Env_blind q.2.2.2.2⟩
theorem x_args {X : xG} : ∀ (as : List Value) (i : Nat), lv_args i (as.map (x_rv X)) = x_ls X (lv_args i as)
  | [], _ => rfl
  | v :: vs, i => by
    show (i, x_rv X v) :: lv_args (if (x_rv X v).category = 2 then i + 2 else i + 1) (vs.map (x_rv X)) = (i, x_rv X v) :: x_ls X (lv_args (if v.category = 2 then i + 2 else i + 1) vs)
    rw [x_cat, x_args vs]
theorem x_sl {X : xG} : ∀ (as : List Value), (lg_sl (as.map (x_rv X))).length = (lg_sl as).length
  | [] => rfl
  | v :: vs => by
    have h := x_sl (X := X) vs
    unfold lg_sl at h ⊢
    simp only [List.map_cons, List.flatMap_cons, List.length_append, x_cat, h]
    split <;> rfl
theorem Ct_of {X : xG} {y : MethodName} {cc : ByteArray} {nL : Nat} {rt : Option FieldType} {d mc ms : Nat} {as : List Value} {n : Nat} {sh : List (Nat × Nat)} {MI : Nat → Nat → Int32} {ML : Nat → Nat → Int64} {MR : Nat → Nat → Option Nat} {n' : Nat} {sh' : List (Nat × Nat)} {Qv : xQ} (hy : plainName y.cls = true) (hln : (lg_sl as).length ≤ nL)
    (body : ∀ G : xM, x_GI X G rt y.name n' sh' mc ms Qv → RW X G y.cls cc nL (x_rm d mc ms) n sh MI ML MR 0 0 0 (lv_args 0 as) []) : Ct X y cc nL rt d mc ms as n sh MI ML MR n' sh' Qv := by
  refine Met.ofW (cc := cc) (maxL := nL) (ret := rt) hy rfl ?_
  intro p e s m args below meth c s₁ B hml hv
  obtain ⟨rfl, hP, hL, hn, hE⟩ := hv
  have hts := atoms_spec (ws := .code y cc nL rt :: x_T) B.pre
  have hown : s.vm.findClass y.cls = some m.cls := findClass_of_methodNamed B.named
  have hname : meth.name = y.name := (name_of_methodNamed B.named B.method).1
  have hl := lv_entry (as.map (x_rv X)) (n := nL) (by rw [x_sl]; exact hln)
  rw [lg_entry_eq]
  generalize (lg_sl (as.map (x_rv X)) ++ List.replicate (nL - (lg_sl (as.map (x_rv X))).length) Slot.unset).toArray = la at hl ⊢
  rw [x_args] at hl
  exact body (p, e, s, m, _, below, meth, c, rt, y.name, _) ⟨rfl, rfl, rfl⟩ ⟨B.exec, B.bytes, hml, hown, fun w hw => hts w (List.mem_cons_of_mem _ hw), hE, B.returns, B.notSynchronized, hname⟩ s.heap [] la hP hL va_S.rf hl hn
section RWret
variable {X : xG} {G : xM} {own : String} {cc : ByteArray} {nL : Nat} {R : Room} {n : Nat} {sh : List (Nat × Nat)} {MI : Nat → Nat → Int32} {ML : Nat → Nat → Int64} {MR : Nat → Nat → Option Nat} {cells slots pc : Nat} {ls : List (Nat × Value)} {st : List Value}
theorem r_iret {x : Int32} {mn : String} {Qv : xQ} (hG : x_GI X G (some .int) mn n sh cells slots Qv) (hd : decode cc pc = .ok (.ireturn, 1)) (hq : Qv (some (.int x)) MI ML MR) : RW X G own cc nL R n sh MI ML MR cells slots pc ls [.int x] := by
  obtain ⟨p, e, s, m, args, below, meth, c, rt, mn, Q⟩ := G
  intro O H locs la hP hL hS hl hn
  obtain ⟨g1, g2, g3⟩ := hG
  subst g3; subst g1
  exact W.iret O.1 O.2.1 O.2.2.2.2.2.2.1  (fun t ht hW => ⟨⟨some (.int x), MI, ML, MR, rfl, hq, by rw [ht]; exact hP, hL, fun q => by rw [ht]; exact hn q, x_Env_moved O.2.2.2.2.2.1 hS ht hW⟩, hS.F ht⟩) hS.2.2 hd O.2.2.2.2.2.2.2.1
theorem r_lret {x : Int64} {mn : String} {Qv : xQ} (hG : x_GI X G (some .long) mn n sh cells slots Qv) (hd : decode cc pc = .ok (.lreturn, 1)) (hq : Qv (some (.long x)) MI ML MR) : RW X G own cc nL R n sh MI ML MR cells slots pc ls [.long x] := by
  obtain ⟨p, e, s, m, args, below, meth, c, rt, mn, Q⟩ := G
  intro O H locs la hP hL hS hl hn
  obtain ⟨g1, g2, g3⟩ := hG
  subst g3; subst g1
  exact W.lret O.1 O.2.1 O.2.2.2.2.2.2.1  (fun t ht hW => ⟨⟨some (.long x), MI, ML, MR, rfl, hq, by rw [ht]; exact hP, hL, fun q => by rw [ht]; exact hn q, x_Env_moved O.2.2.2.2.2.1 hS ht hW⟩, hS.F ht⟩) hS.2.2 hd O.2.2.2.2.2.2.2.1
theorem r_zret {x : Int32} {mn : String} {Qv : xQ} {ty : FieldType} (hG : x_GI X G (some ty) mn n sh cells slots Qv) (hd : decode cc pc = .ok (.ireturn, 1)) (hnar : narrow ty (.int x) = .int x) (hq : Qv (some (.int x)) MI ML MR) : RW X G own cc nL R n sh MI ML MR cells slots pc ls [.int x] := by
  obtain ⟨p, e, s, m, args, below, meth, c, rt, mn, Q⟩ := G
  intro O H locs la hP hL hS hl hn
  obtain ⟨g1, g2, g3⟩ := hG
  subst g3; subst g1
  exact W.zret O.1 O.2.1 O.2.2.2.2.2.2.1 hnar (fun t ht hW => ⟨⟨some (.int x), MI, ML, MR, rfl, hq, by rw [ht]; exact hP, hL, fun q => by rw [ht]; exact hn q, x_Env_moved O.2.2.2.2.2.1 hS ht hW⟩, hS.F ht⟩) hS.2.2 hd O.2.2.2.2.2.2.2.1
theorem r_vret {mn : String} {Qv : xQ} (hG : x_GI X G none mn n sh cells slots Qv) (hd : decode cc pc = .ok (.return_, 1)) (hq : Qv none MI ML MR) : RW X G own cc nL R n sh MI ML MR cells slots pc ls [] := by
  obtain ⟨p, e, s, m, args, below, meth, c, rt, mn, Q⟩ := G
  intro O H locs la hP hL hS hl hn
  obtain ⟨g1, g2, g3⟩ := hG
  subst g3; subst g1
  exact W.vret O.1 O.2.1 O.2.2.2.2.2.2.1 (fun t ht hW => ⟨⟨none, MI, ML, MR, rfl, hq, by rw [ht]; exact hP, hL, fun q => by rw [ht]; exact hn q, x_Env_moved O.2.2.2.2.2.1 hS ht hW⟩, hS.F ht⟩) hS.2.2 hd O.2.2.2.2.2.2.2.1
theorem r_aret {a : Nat} {mn : String} {Qv : xQ} {rf : FieldType} (hG : x_GI X G (some rf) mn n sh cells slots Qv) (hrf : (∃ n, rf = .object n) ∨ ∃ t, rf = .array t) (hd : decode cc pc = .ok (.areturn, 1)) (hq : Qv (some (.ref a)) MI ML MR) : RW X G own cc nL R n sh MI ML MR cells slots pc ls [.ref a] := by
  obtain ⟨p, e, s, m, args, below, meth, c, rt, mn, Q⟩ := G
  intro O H locs la hP hL hS hl hn
  obtain ⟨g1, g2, g3⟩ := hG
  subst g3; subst g1
  exact W.aret O.1 O.2.1 O.2.2.2.2.2.2.1 hrf (Or.inr ⟨_, rfl⟩) (fun t ht hW => ⟨⟨some (.ref a), MI, ML, MR, rfl, hq, by rw [ht]; exact hP, hL, fun q => by rw [ht]; exact hn q, x_Env_moved O.2.2.2.2.2.1 hS ht hW⟩, hS.F ht⟩) hS.2.2 hd O.2.2.2.2.2.2.2.1
end RWret
/-- a method that is called by entry idx of class own: k = 0 an instance's, 1 static, 2 a constructor; h: by the nest's host -/
def x_MB (y : MethodName) (cc : ByteArray) (nL : Nat) (rt : Option FieldType) (np : Nat) : Prop := Cond.initialized y.cls ∈ x_T ∧ Cond.code y cc nL rt ∈ x_T ∧ (y.cls ≠ "java/lang/invoke/MethodHandle" ∧ y.cls ≠ "java/lang/invoke/VarHandle") ∧ (parseMethodDescriptor y.desc).map (fun d => d.parameters.length) = some np
def x_LK (own : String) (idx : Nat) (y : MethodName) : Prop := Cond.methodLink own idx y ∈ x_T ∨ ∃ h, Cond.methodLinkNest own idx y h ∈ lw_tbl
theorem x_goodIn {y : MethodName} {cc : ByteArray} {nL : Nat} {rt : Option FieldType} (h : Cond.code y cc nL rt ∈ x_T) : GoodIn x_T (.code y cc nL rt :: x_T) := by
  intro w hw
  rcases List.mem_cons.mp hw with e | hw
  · subst e; exact ⟨h, good_of_word (x_goodT h)⟩
  · exact ⟨hw, good_of_word (x_goodT hw)⟩
section XC
variable {X : xG} {p : Program} {e : Env} {R : Room} {s : State} {m : MethodId} {args : Array Value} {below : List Frame} {meth : Method} {c : Code} {H : Heap} {locs : List Loc} {cells slots : Nat} {Q : State → Prop}
theorem x_after {n : Nat} {sh : List (Nat × Nat)} {Qv : xQ} {mc ms pc : Nat} {la : Array Slot} {st0 rest : List Value} {a : Array Value} (hr : va_Run p X.1 e R s m args below meth c H locs cells slots mc ms (F0 m pc la st0) rest (x_Q X n sh Qv a) (x_A X)) (hS : va_S (x_A X) s.heap H locs)
    (kk : ∀ (r : Option Value) (MI : Nat → Nat → Int32) (ML : Nat → Nat → Int64) (MR : Nat → Nat → Option Nat) (H1 : Heap) (locs1 : List Loc), Qv r MI ML MR → va_P X.2.1 vwCl (x_ws X sh MI ML MR) H1 → sh.length ≤ 1000 → va_S (x_A X) s.heap H1 locs1 → (n ≠ 0 → H1.size + 1 = X.2.2.2.1.heap.size + n) → W p X.1 e R s m args below meth c H1 locs1 (cells + mc) (slots + ms) Q (F0 m (pc + 3) la ((r.map (x_rv X)).toList ++ rest))) : W p X.1 e R s m args below meth c H locs cells slots Q (F0 m pc la st0) := by
  intro T hT XX
  obtain ⟨v, st₀, t, T', L, h0, X', hL, e1, e2, ⟨⟨r, MI, ML, MR, hv, hq, hP, hlen, hn, hE⟩, hz, hk⟩, st⟩ := hr T hT XX
  cases hv
  rw [h0] at hz hk
  obtain ⟨t2, a1, b1⟩ := kk r MI ML MR T'.heap (locs ++ L) hq (by rw [e1]; exact hP) hlen
    ⟨Nat.le_trans hS.1 (by rw [e1]; exact hz), fun q h1 h2 => by rw [e1, hk q (Nat.lt_of_lt_of_le h1 hS.1) h2]; exact hS.2.1 q h1 h2, fun q hq => by
      rcases List.mem_append.mp hq with h | h
      · exact hS.2.2 q h
      · exact hL q h⟩ (fun q => by rw [e1]; exact hn q) T' rfl X'
  exact ⟨t2, st t2 a1, b1⟩
theorem x_len_of {y : MethodName} {np : Nat} (h : (parseMethodDescriptor y.desc).map (fun d => d.parameters.length) = some np) : ∀ sig, parseMethodDescriptor y.desc = some sig → np = sig.parameters.length := fun sig hs => by
  rw [hs] at h
  exact (Option.some.inj h).symm
end XC
section RWcall
variable {X : xG} {G : xM} {own : String} {cc : ByteArray} {nL : Nat} {R : Room} {n : Nat} {sh : List (Nat × Nat)} {MI : Nat → Nat → Int32} {ML : Nat → Nat → Int64} {MR : Nat → Nat → Option Nat} {cells slots pc : Nat} {ls : List (Nat × Value)} {st : List Value}
theorem r_callV {y : MethodName} {cc' : ByteArray} {nL' np idx d' mc' ms' a ci N n' : Nat} {rt' : Option FieldType} {as stk : List Value} {sh' : List (Nat × Nat)} {Qv : xQ} (hd : decode cc pc = .ok (.invokevirtual idx, 3)) (hlk : x_LK own idx y) (hmb : x_MB y cc' nL' rt' np) (hin : Cond.instanceMethod y ∈ x_T) (hsel : Cond.selects y.cls y y ∈ x_T) (hC : Ct X y cc' nL' rt' d' mc' ms' (.ref a :: as) n sh MI ML MR n' sh' Qv) (hrc : sh[a]? = some (ci, N)) (hcl : x_own ci = some y.cls) (hst : stk = as.reverse ++ .ref a :: st) (hnp : as.length = np) (hct : (st.map (fun v => v.category)).sum ≤ 8) (hR : x_fit R d' nL' mc' ms' cells slots = true) (k : ∀ (r : Option Value) (MI' : Nat → Nat → Int32) (ML' : Nat → Nat → Int64) (MR' : Nat → Nat → Option Nat), Qv r MI' ML' MR' → RW X G own cc nL R n' sh' MI' ML' MR' (cells + mc') (slots + ms') (pc + 3) ls (r.toList ++ st)) : RW X G own cc nL R n sh MI ML MR cells slots pc ls stk := by
  subst hst
  obtain ⟨p, e, s, m, args, below, meth, c, rt, mn, Q⟩ := G
  intro O H locs la hP hL hS hl hn
  obtain ⟨hini, hcode, hmh, hdesc⟩ := hmb
  obtain ⟨hR1, hR2⟩ := x_fit_spec hR
  have hts := O.2.2.2.2.1
  have hcat : ((st.map (x_rv X)).map fun v => v.category).sum ≤ 8 := by
    rw [List.map_map]
    have : ((fun v : Value => v.category) ∘ x_rv X) = fun v => v.category := funext fun v => x_cat X v
    rw [this]
    exact hct
  have hpre : ∀ U : State, U.heap = H → s.WarmedH U.vm → va_Pc ((.ref a :: as).map (x_rv X)) (x_Wd X n sh MI ML MR) (((.ref a :: as).map (x_rv X)).toArray) U := fun U hU hW => ⟨rfl, by rw [hU]; exact hP, hL, fun q => by rw [hU]; exact hn q, x_Env_moved O.2.2.2.2.2.1 hS hU hW⟩
  have hstk : (as.reverse ++ .ref a :: st).map (x_rv X) = (as.map (x_rv X)).reverse ++ .ref (x_ad X a) :: st.map (x_rv X) := by simp [x_rv]
  have hrcv : ∃ cell : Cell, H[x_ad X a]? = some cell ∧ cell.vm.isStatics = false ∧ s.vm.findClass y.cls = some cell.cls := by
    unfold x_own at hcl
    cases hq : vwCl[ci]? with
    | none => rw [hq] at hcl; cases hcl
    | some q =>
      rw [hq] at hcl
      have e1 : q.1 = y.cls := Option.some.inj hcl
      have hci : ci < 12 := (List.getElem?_eq_some_iff.mp hq).1
      rw [← e1]
      exact va_recv O.2.2.2.2.2.1.1 hP hq (x_obj hrc hci)
  refine x_after (Q := Q) (mc := mc') (ms := ms') (rest := st.map (x_rv X)) (a := ((.ref a :: as).map (x_rv X)).toArray) (n := n') (sh := sh') (Qv := Qv) ?_ hS (fun r MI' ML' MR' H1 locs1 hq hP1 hL1 hS1 hn1 => ?_)
  · rw [hstk]
    rcases hlk with hlk | ⟨ho, hlk⟩
    · exact va_runV (Ts := x_T) (As := as.map (x_rv X)) ⟨O.1, O.2.1, O.2.2.1, O.2.2.2.1, hts⟩ hC ⟨⟨rfl, rfl, hR1.1, hR1.2, pay_in hts (x_goodIn hcode), List.mem_cons_self, hts _ hcode, hts _ hini, hmh, x_len_of hdesc, hts _ hlk⟩, hts _ hin, hts _ hsel⟩ ⟨x_blind, hrcv, hpre⟩ rfl (by rw [List.length_map]; exact hnp) hl.1 rfl (lv_room hcat) hd hR2
    · exact va_runVN (Ts := x_T) (As := as.map (x_rv X)) ⟨O.1, O.2.1, O.2.2.1, O.2.2.2.1, hts⟩ hC ⟨⟨⟨rfl, rfl, hR1.1, hR1.2, pay_in hts (x_goodIn hcode), List.mem_cons_self⟩, hts _ hcode, hts _ hini, hmh, x_len_of hdesc, va_Nw.use rfl (O.2.2.2.2.2.1.2.1 _ _ _ _ hlk)⟩, hts _ hin, hts _ hsel⟩ ⟨x_blind, hrcv, hpre⟩ rfl (by rw [List.length_map]; exact hnp) hl.1 rfl (lv_room hcat) hd hR2
  · have hk := k r MI' ML' MR' hq O H1 locs1 la hP1 hL1 hS1 hl hn1
    have hr : (r.toList ++ st).map (x_rv X) = (r.map (x_rv X)).toList ++ st.map (x_rv X) := by cases r <;> simp
    rw [hr] at hk
    exact hk
theorem r_callS {y : MethodName} {cc' : ByteArray} {nL' np idx d' mc' ms' n' : Nat} {rt' : Option FieldType} {as stk : List Value} {sh' : List (Nat × Nat)} {Qv : xQ} (hd : decode cc pc = .ok (.invokestatic idx, 3)) (hlk : x_LK own idx y) (hmb : x_MB y cc' nL' rt' np) (hstc : Cond.static y ∈ x_T) (hC : Ct X y cc' nL' rt' d' mc' ms' as n sh MI ML MR n' sh' Qv) (hst : stk = as.reverse ++ st) (hnp : as.length = np) (hct : (st.map (fun v => v.category)).sum ≤ 8) (hR : x_fit R d' nL' mc' ms' cells slots = true) (k : ∀ (r : Option Value) (MI' : Nat → Nat → Int32) (ML' : Nat → Nat → Int64) (MR' : Nat → Nat → Option Nat), Qv r MI' ML' MR' → RW X G own cc nL R n' sh' MI' ML' MR' (cells + mc') (slots + ms') (pc + 3) ls (r.toList ++ st)) : RW X G own cc nL R n sh MI ML MR cells slots pc ls stk := by
  subst hst
  obtain ⟨p, e, s, m, args, below, meth, c, rt, mn, Q⟩ := G
  intro O H locs la hP hL hS hl hn
  obtain ⟨hini, hcode, hmh, hdesc⟩ := hmb
  obtain ⟨hR1, hR2⟩ := x_fit_spec hR
  have hts := O.2.2.2.2.1
  have hcat : ((st.map (x_rv X)).map fun v => v.category).sum ≤ 8 := by
    rw [List.map_map]
    have : ((fun v : Value => v.category) ∘ x_rv X) = fun v => v.category := funext fun v => x_cat X v
    rw [this]
    exact hct
  have hpre : ∀ U : State, U.heap = H → s.WarmedH U.vm → va_Pc (as.map (x_rv X)) (x_Wd X n sh MI ML MR) ((as.map (x_rv X)).toArray) U := fun U hU hW => ⟨rfl, by rw [hU]; exact hP, hL, fun q => by rw [hU]; exact hn q, x_Env_moved O.2.2.2.2.2.1 hS hU hW⟩
  have hstk : (as.reverse ++ st).map (x_rv X) = (as.map (x_rv X)).reverse ++ st.map (x_rv X) := by simp [x_rv]
  refine x_after (Q := Q) (mc := mc') (ms := ms') (rest := st.map (x_rv X)) (a := (as.map (x_rv X)).toArray) (n := n') (sh := sh') (Qv := Qv) ?_ hS (fun r MI' ML' MR' H1 locs1 hq hP1 hL1 hS1 hn1 => ?_)
  · rw [hstk]
    rcases hlk with hlk | ⟨ho, hlk⟩
    · exact va_runS (Ts := x_T) (As := as.map (x_rv X)) ⟨O.1, O.2.1, O.2.2.1, O.2.2.2.1, hts⟩ hC ⟨⟨rfl, rfl, hR1.1, hR1.2, pay_in hts (x_goodIn hcode), List.mem_cons_self, hts _ hcode, hts _ hini, hmh, x_len_of hdesc, hts _ hlk⟩, hts _ hstc⟩ ⟨x_blind, hpre⟩ rfl (by rw [List.length_map]; exact hnp) hl.1 rfl (lv_room hcat) hd hR2
    · exact va_runSN (Ts := x_T) (As := as.map (x_rv X)) ⟨O.1, O.2.1, O.2.2.1, O.2.2.2.1, hts⟩ hC ⟨⟨⟨rfl, rfl, hR1.1, hR1.2, pay_in hts (x_goodIn hcode), List.mem_cons_self⟩, hts _ hcode, hts _ hini, hmh, x_len_of hdesc, va_Nw.use rfl (O.2.2.2.2.2.1.2.1 _ _ _ _ hlk)⟩, hts _ hstc, trivial⟩ ⟨x_blind, hpre⟩ rfl (by rw [List.length_map]; exact hnp) hl.1 rfl (lv_room hcat) hd hR2
  · have hk := k r MI' ML' MR' hq O H1 locs1 la hP1 hL1 hS1 hl hn1
    have hr : (r.toList ++ st).map (x_rv X) = (r.map (x_rv X)).toList ++ st.map (x_rv X) := by cases r <;> simp
    rw [hr] at hk
    exact hk
theorem r_callI {y : MethodName} {cc' : ByteArray} {nL' np idx d' mc' ms' a n' : Nat} {rt' : Option FieldType} {as stk : List Value} {sh' : List (Nat × Nat)} {Qv : xQ} (hd : decode cc pc = .ok (.invokespecial idx, 3)) (hlk : x_LK own idx y) (hmb : x_MB y cc' nL' none np) (hin : Cond.instanceMethod y ∈ x_T) (hnm : y.name = "<init>") (hC : Ct X y cc' nL' none d' mc' ms' (.ref a :: as) n sh MI ML MR n' sh' Qv) (hst : stk = as.reverse ++ .ref a :: st) (hnp : as.length = np) (hct : (st.map (fun v => v.category)).sum ≤ 8) (hR : x_fit R d' nL' mc' ms' cells slots = true) (k : ∀ (r : Option Value) (MI' : Nat → Nat → Int32) (ML' : Nat → Nat → Int64) (MR' : Nat → Nat → Option Nat), Qv r MI' ML' MR' → RW X G own cc nL R n' sh' MI' ML' MR' (cells + mc') (slots + ms') (pc + 3) ls (r.toList ++ st)) : RW X G own cc nL R n sh MI ML MR cells slots pc ls stk := by
  subst hst
  obtain ⟨p, e, s, m, args, below, meth, c, rt, mn, Q⟩ := G
  intro O H locs la hP hL hS hl hn
  obtain ⟨hini, hcode, hmh, hdesc⟩ := hmb
  obtain ⟨hR1, hR2⟩ := x_fit_spec hR
  have hts := O.2.2.2.2.1
  have hcat : ((st.map (x_rv X)).map fun v => v.category).sum ≤ 8 := by
    rw [List.map_map]
    have : ((fun v : Value => v.category) ∘ x_rv X) = fun v => v.category := funext fun v => x_cat X v
    rw [this]
    exact hct
  have hpre : ∀ U : State, U.heap = H → s.WarmedH U.vm → va_Pc ((.ref a :: as).map (x_rv X)) (x_Wd X n sh MI ML MR) (((.ref a :: as).map (x_rv X)).toArray) U := fun U hU hW => ⟨rfl, by rw [hU]; exact hP, hL, fun q => by rw [hU]; exact hn q, x_Env_moved O.2.2.2.2.2.1 hS hU hW⟩
  have hstk : (as.reverse ++ .ref a :: st).map (x_rv X) = (as.map (x_rv X)).reverse ++ .ref (x_ad X a) :: st.map (x_rv X) := by simp [x_rv]
  refine x_after (Q := Q) (mc := mc') (ms := ms') (rest := st.map (x_rv X)) (a := ((.ref a :: as).map (x_rv X)).toArray) (n := n') (sh := sh') (Qv := Qv) ?_ hS (fun r MI' ML' MR' H1 locs1 hq hP1 hL1 hS1 hn1 => ?_)
  · rw [hstk]
    rcases hlk with hlk | ⟨ho, hlk⟩
    · exact va_runI (Ts := x_T) (As := as.map (x_rv X)) ⟨O.1, O.2.1, O.2.2.1, O.2.2.2.1, hts⟩ hC ⟨⟨rfl, rfl, hR1.1, hR1.2, pay_in hts (x_goodIn hcode), List.mem_cons_self, hts _ hcode, hts _ hini, hmh, x_len_of hdesc, hts _ hlk⟩, hnm, hts _ hin⟩ ⟨x_blind, hpre⟩ rfl (by rw [List.length_map]; exact hnp) hl.1 rfl (lv_room hcat) hd hR2
    · exact va_runIN (Ts := x_T) (As := as.map (x_rv X)) ⟨O.1, O.2.1, O.2.2.1, O.2.2.2.1, hts⟩ hC ⟨⟨⟨rfl, rfl, hR1.1, hR1.2, pay_in hts (x_goodIn hcode), List.mem_cons_self⟩, hts _ hcode, hts _ hini, hmh, x_len_of hdesc, va_Nw.use rfl (O.2.2.2.2.2.1.2.1 _ _ _ _ hlk)⟩, hnm, hts _ hin⟩ ⟨x_blind, hpre⟩ rfl (by rw [List.length_map]; exact hnp) hl.1 rfl (lv_room hcat) hd hR2
  · have hk := k r MI' ML' MR' hq O H1 locs1 la hP1 hL1 hS1 hl hn1
    have hr : (r.toList ++ st).map (x_rv X) = (r.map (x_rv X)).toList ++ st.map (x_rv X) := by cases r <;> simp
    rw [hr] at hk
    exact hk
end RWcall

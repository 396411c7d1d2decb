/-! 'throw new NoSuchElementException(text)' where no traces are kept: its constructor hands on by entry 13. The library's law of such a throw, and the kit's row over it, are of constructors that hand on by entry 7; so the throw is put together here from the laws of its steps, by their names. -/
def nsE : String := "java/util/NoSuchElementException"
def rtE : String := "java/lang/RuntimeException"
def six13 : ByteArray := ⟨#[0x2a, 0x2b, 0xb7, 0x00, 0x0d, 0xb1]⟩
/-- the library's words for a throw, behind those of its constructors -/
def ns_rest (own : String) (ic : Nat) : List Cond := (Bundle.ownAtoms own ic nsE []).drop (Bundle.throwableAtoms ++ Bundle.throwableSAtoms ++ Bundle.chainSAtoms nsE []).length
/-- the words of this throw -/
def at13 (own : String) (ic : Nat) : List Cond := Bundle.throwableAtoms ++ Bundle.throwableSAtoms ++ Bundle.passSAtoms nsE rtE 13 six13 ++ Bundle.chainSAtoms rtE ["java/lang/Exception"] ++ ns_rest own ic
theorem at13_iff {own : String} {ic : Nat} {w : Cond} : w ∈ at13 own ic ↔ w ∈ Bundle.throwableAtoms ∨ w ∈ Bundle.throwableSAtoms ∨ w ∈ Bundle.passSAtoms nsE rtE 13 six13 ∨ w ∈ Bundle.chainSAtoms rtE ["java/lang/Exception"] ∨ w ∈ ns_rest own ic := by
  simp only [at13, List.mem_append, or_assoc]
/-- word i of the rest -/
theorem ns_at {own : String} {ic : Nat} {args : Array Value} {s : State} (h : ∀ w ∈ at13 own ic, w.before args s = true) (i : Nat) {w : Cond} (hi : (ns_rest own ic)[i]? = some w) : w.holds args s none s [] = true :=
  h w (at13_iff.mpr (Or.inr (Or.inr (Or.inr (Or.inr (List.mem_of_getElem? hi))))))
section nsw
variable {l : Launch} {e : Env} {s : State} {args : Array Value} {C : ClassId} {k : Class}
/-- three constructors, each handing its text to the next, the last to Throwable's -/
theorem ns_chain {pl : Platform} (hpl : pl.magicAccessors = ({} : Platform).magicAccessors) {top : MethodId} (ht : s.methodNamed? (Bundle.initS Bundle.tN) = some top) (h1 : ∀ w ∈ Bundle.passSAtoms nsE rtE 13 six13, w.before args s = true) (h2 : ∀ w ∈ Bundle.chainSAtoms rtE ["java/lang/Exception"], w.before args s = true) :
    ∃ Ps : List PassC, Ps.length = 3 ∧ (∀ P, P ∈ Ps → P.LinksS pl s) ∧ PassesOn top (Ps.map (·.toPassT)) ∧ s.methodNamed? (Bundle.initS nsE) = some (firstOf top (Ps.map (·.toPassT))) := by
  obtain ⟨A, zA, nA, uA⟩ := PassC.ofS_atoms (args := args) hpl (X := nsE) (Y := rtE) (index := 13) (bytes := six13) (by decide) (by decide) (by decide +kernel) (by decide +kernel) (by decide +kernel) (by decide +kernel) h1
  obtain ⟨B, Bs, zn, zB, zBs, nB, uB, uBs⟩ := Bundle.chainS (args := args) hpl ht ["java/lang/Exception"] rtE (by decide) (by decide) h2
  rw [nB] at uA
  refine ⟨A :: B :: Bs, congrArg (· + 2) zn, fun P hP => ?_, ⟨(Option.some.inj uA).symm, uB, uBs⟩, nA⟩
  simp only [List.mem_cons] at hP
  rcases hP with h | h | h
  · exact h ▸ zA
  · exact h ▸ zB
  · exact zBs P h
/-- the class keeps Throwable's own method -/
theorem ns_picks (had : l.admits e) (hC : s.vm.findClass nsE = some C) {t : MethodName} {mt : MethodId} (ht : s.methodNamed? t = some mt) (hh : t.cls ≠ "java/lang/invoke/MethodHandle" ∧ t.cls ≠ "java/lang/invoke/VarHandle") (hw : (Cond.selects nsE t t).holds args s none s [] = true) : selectMethod e.platform s.vm C mt = .method mt := by
  obtain ⟨x, y, z, w1, w2, w3, w4, -⟩ := Cond.selects_spec hw
  rw [hC] at w1
  rw [State.methodFound?_of_named ht hh] at w2
  rw [ht] at w3
  cases w1; cases w2; cases w3
  exact (Launch.admits_selectMethod had _ _ _).trans w4
theorem ns_kind (hC : s.vm.findClass nsE = some C) (hk : s.vm.classes[C]? = some k) {n : Nat} (hw : (Cond.instantiable nsE n).holds args s none s [] = true) : k.kind = .ordinary := by
  obtain ⟨x, y, w1, w2, w3, -⟩ := Cond.instantiable_spec hw
  rw [hC] at w1
  cases w1
  rw [hk] at w2
  cases w2
  exact w3
/-- a field of Throwable as it lies in the class's objects -/
def ns_lies (s : State) (C : ClassId) (k : Class) (f : Field) (nm : String) : Prop := f.name = nm ∧ k.instanceTypes[f.slot]? = some f.type ∧ ∃ d, Jmm.declares? s.vm f.slot (C + 1) C = some d ∧ d.2.name = f.name
theorem ns_lies_of (hC : s.vm.findClass nsE = some C) (hk : s.vm.classes[C]? = some k) {nm d : String} {cf i : Nat} {kf : Class} {f : Field} (hf : s.fieldFound? Bundle.tN nm d = some (cf, kf, i, f)) (hn : f.name = nm) (hw : (Cond.lays nsE Bundle.tN nm d).holds args s none s [] = true) : ns_lies s C k f nm :=
  ⟨hn, Cond.laysAt hC hk hf hw⟩
theorem ns_apart {f g : Field} {a b : String} (hf : ns_lies s C k f a) (hg : ns_lies s C k g b) (hne : a ≠ b) : f.slot ≠ g.slot := by
  obtain ⟨na, -, x, x1, x2⟩ := hf
  obtain ⟨nb, -, y, y1, y2⟩ := hg
  exact Cond.laysApart x1 y1 x2 y2 (by rw [na, nb]; exact hne)
/-- what a constructor's first stores leave alone -/
theorem ns_left {x : Cell} {i j : Nat} {v : Value} (h : i ≠ j) : (x.setSlot i v).slots[j]? = x.slots[j]? := Array.getElem?_setIfInBounds_ne h
end nsw
section nst
variable {p : Program} {l : Launch} {e : Env} {R : Room} {s : State} {m : MethodId} {args : Array Value} {below : List Frame} {meth : Method} {c : Code} {S : State} {cells slots : Nat}
/-- a cell of statics is as it was -/
theorem ns_static (X : Stand p l e R s m args below meth c S [] cells slots) {q : Addr} {x : Cell} (h : s.heap[q]? = some x) (hx : x.vm.isStatics = true) : ∃ y, S.heap[q]? = some y ∧ y.vm ≠ .unknown ∧ ∀ i : Nat, y.slots[i]? = x.slots[i]? := by
  obtain ⟨-, -, -, -, -, hkeep⟩ := X.same
  obtain ⟨y, h1, h2, -, h3⟩ := hkeep q x h
  refine ⟨y, h1, fun hu => ?_, fun i => h3 i List.not_mem_nil⟩
  have hv : y.vm = x.vm := by rw [h2]
  rw [← hv, hu] at hx
  exact absurd hx (by decide)
theorem x_ctor13 (X : Stand p l e R s m args below meth c S [] cells slots) (hexec : p.tables.exec = Jvm.exec) (htr : e.platform.stackTraces = false) {own : String} {ic : Nat} (hown : s.vm.findClass own = some m.cls) (h : ∀ w ∈ at13 own ic, w.before args s = true)
    {o : Addr} {C : ClassId} {k : Class} (hC : s.vm.findClass nsE = some C) (hk : s.vm.classes[C]? = some k) (ho : S.heap[o]? = some (freshCell C k)) (hnew : s.heap.size ≤ o) {txt : Value} (htxt : txt.isRef = true)
    {f : JFrame} (hf : f.method = m) (hfl : f.locals.size = c.maxLocals) (hfk : f.locked = none) (hfe : f.entered = []) {st : List Value} (hfs : f.stack = txt :: .ref o :: .ref o :: st) (hdi : decode c.code f.pc = .ok (.invokespecial ic, 3)) (hdt : decode c.code (f.pc + 3) = .ok (.athrow, 1)) (hno : ∀ x ∈ c.exceptionTable.toList, covers x (f.pc + 3) = false)
    (hroom : 5 < R.frames) (hroom2 : 2 * f.monitorRoom + ((Value.ref o :: st).map fun v => v.category).sum + 81 ≤ R.locals) (hml : meth.locks = false) :
    ∃ U : State, Steps p.tables e below (S.setTop f) U ∧ U.status = .running ∧ Ended U below (.threw o) ∧ s.WarmedH U.vm ∧ s.sameButNew ({ U with vm := s.vm } : State) [] cells slots ∧ ∃ x, U.heap[o]? = some x ∧ s.vm.findClass nsE = some x.cls ∧ x.vm = .none := by
  obtain ⟨pf1, pf2, pf3⟩ : e.platform.frameOwnsMonitors = true ∧ e.platform.finalization = false ∧ e.platform.magicAccessors = ({} : Platform).magicAccessors := by
    rw [X.admits.platform]
    exact ⟨rfl, rfl, rfl⟩
  -- what is thrown, its constructors, its fields
  obtain ⟨T, Z0, zT, -, tie⟩ := ThrowableC.of_atoms (args := args) (s := s) pf1 pf2 pf3 (fun w hw => h w (at13_iff.mpr (Or.inl hw)))
  obtain ⟨Z, M, zZ, zM, ztop⟩ := Init0T.ofS_atoms (args := args) pf3 zT tie (fun w hw => h w (at13_iff.mpr (Or.inr (Or.inl hw))))
  have hpass : ∀ w ∈ Bundle.passSAtoms nsE rtE 13 six13, w.before args s = true := fun w hw => h w (at13_iff.mpr (Or.inr (Or.inr (Or.inl hw))))
  obtain ⟨Ps, zlen, zPs, zon, zfirst⟩ := ns_chain (args := args) pf3 ztop hpass (fun w hw => h w (at13_iff.mpr (Or.inr (Or.inr (Or.inr (Or.inl hw))))))
  obtain ⟨ib, jb, fb, b1, b2, b3, b4, -, nmb, tyb, fndb⟩ := Cond.ownField (t := .object "java/lang/Object") tie.found zT.cls (by decide +kernel) (ns_at h 11 rfl) (ns_at h 12 rfl) e.platform pf3
  have lc := ns_lies_of hC hk tie.cause tie.causeName (ns_at h 5 rfl)
  have ls := ns_lies_of hC hk tie.stack tie.stackName (ns_at h 6 rfl)
  have lp := ns_lies_of hC hk tie.supp tie.suppName (ns_at h 7 rfl)
  have lb := ns_lies_of hC hk fndb nmb (ns_at h 13 rfl)
  obtain ⟨im, fndm⟩ := tie.msg
  have lm := (Cond.laysAt hC hk fndm (ns_at h 8 rfl)).1
  have hord := ns_kind hC hk (ns_at h 1 rfl)
  -- Throwable's statics
  obtain ⟨x, zx, zst⟩ := tie.statics
  obtain ⟨y, zy, zknown, zsame⟩ := ns_static X zx zst
  obtain ⟨u0, zu⟩ := Cond.staticRefV tie.unassigned zT.unassignedStatic zT.statics zx zst (ns_at h 9 rfl)
  obtain ⟨u1, zs⟩ := Cond.staticRefV tie.sentinel zT.sentinelStatic zT.statics zx zst (ns_at h 10 rfl)
  have zapart : T.aS ≠ o := fun hq => Nat.lt_irrefl o (Nat.lt_of_lt_of_le (hq ▸ (Array.getElem?_eq_some_iff.mp zx).1) hnew)
  -- no trace: its field stays null
  have hnull : ((preparedCellV T.toThrowableT (freshCell C k) o u0 u1).withEntry S.cur).slots[fb.slot]? = some .null := by
    refine (ns_left (ns_apart lp lb (by decide))).trans ((ns_left (ns_apart ls lb (by decide))).trans ((ns_left (ns_apart lc lb (by decide))).trans ?_))
    refine (fresh_default lb.2.1).trans ?_
    rw [tyb]
    rfl
  -- into the constructor, through it, and out with the throw
  obtain ⟨tm, _, _, _, vm1, zn, -, -, -, -, -, -, -, zw, go1⟩ := Steps.initColdS (tb := p.tables) (e := e) (below := below) (U := S) X.here hexec X.warmed pf3 hown (t := Bundle.initS nsE) rfl rfl (by decide) (ns_at h 0 rfl)
    (hpass _ (List.mem_of_getElem? (i := 0) rfl)) (bytes := six13) (maxL := 2) (hpass _ (List.mem_of_getElem? (i := 1) rfl)) hf hfs hdi
  rw [zfirst] at zn
  cases zn
  obtain ⟨vm2, X2, go2⟩ := (X.noted zw).ctorMessageOffV hexec (g := { f with stack := .ref o :: st }) hf hfl T zT Z zZ M zM Ps zPs zon (u0 := u0) (sen := u1) htxt ho nofun nofun rfl rfl
    (ns_picks X.admits hC tie.fill0 (by decide) (ns_at h 3 rfl)) (ns_picks X.admits hC tie.fill (by decide) (ns_at h 4 rfl)) zy zapart zknown ((zsame _).trans zu) ((zsame _).trans zs)
    (Takes.of_laid hk hord lc.2.1 (by rw [tie.causeType]; rfl)) (Takes.of_laid hk hord ls.2.1 (tie.stackType ▸ fits_refV_array _ u0)) (Takes.of_laid hk hord lp.2.1 (tie.suppType ▸ fits_refV_object _ u1)) (Takes.of_laid hk hord lm (tie.msgType ▸ fits_refV_object _ ⟨txt, htxt⟩))
    tie.objLocals ⟨⟨ib, jb, fb⟩, ⟨b1, b2, b3, b4⟩, hnull, fun _ _ => rfl⟩ htr [] hdi (by omega) (by rw [zlen]; exact hroom2)
  obtain ⟨out, run, ended, warm, same⟩ := X2.athrowLeaves hexec (g := { f with stack := .ref o :: st, pc := f.pc + 3 }) hf hfk hfe hno rfl hdt
  refine ⟨_, go1 _ fun acts => ?_, run, ended, warm, same.weaken (fun z hz hlt => ?_) (Nat.le_refl _) (Nat.le_refl _), _, heapAt_setCell_self _ (Array.getElem?_eq_some_iff.mp ho).1, hC, rfl⟩
  · rw [doInvoke_state]
    exact go2 _ out
  · have hz2 : z.base = o := by
      simp only [List.nil_append, List.mem_cons, List.not_mem_nil, or_false] at hz
      rcases hz with rfl | rfl | rfl | rfl | rfl <;> rfl
    exact absurd (Nat.lt_of_lt_of_le (hz2 ▸ hlt) hnew) (Nat.lt_irrefl o)
end nst
section thr14
variable {p : Program} {l : Launch} {e : Env} {R : Room} {s : State} {m : MethodId} {args : Array Value} {below : List Frame} {meth : Method} {c : Code} {H : Heap} {locs : List Loc} {cells slots : Nat} {Q : State → Prop}
variable {mc ms : Nat} {free : Addr → Prop} {A0 A1 : Nat → Prop} {H0 : Heap} {a : Array Value} {ls : Array Slot} {st0 rest : List Value}
variable {Qc : Array Value → State → Outcome → State → Prop} {XC : String → State → State → Prop}
theorem x_throw13 {cc : ByteArray} {pc : Nat} (hexec : p.tables.exec = Jvm.exec) (hb : c.code = cc) (hl : l.stackTraces = false) {own text : String} {ik is ic mc ms sa : Nat} {A : Nat → Prop}
    (hown : s.vm.findClass own = some m.cls)
    (hk : (Cond.classLink own ik nsE).before args s = true) (hini : (Cond.initialized nsE).before args s = true) (hstr : vk_R own is text sa s) (hat : ∀ w ∈ (at13 own ic).filter vx_no, w.before args s = true)
    (hgood : ∀ w ∈ Cond.classLink own ik nsE :: Cond.initialized nsE :: (at13 own ic).filter vx_no, vx_ot w = true)
    (hU : vx_Zq Bundle.tN "UNASSIGNED_STACK" Bundle.steD A s s.heap) (hN : vx_Zq Bundle.tN "SUPPRESSED_SENTINEL" Bundle.listD A s s.heap) (hS : va_S A s.heap H locs) (hsize : ls.size = c.maxLocals)
    (d0 : decode cc pc = .ok (.new ik, 3)) (d3 : decode cc (pc + 3) = .ok (.dup, 1)) (d4 : decode cc (pc + 4) = .ok (.ldc_w is, 3)) (d7 : decode cc (pc + 7) = .ok (.invokespecial ic, 3)) (d10 : decode cc (pc + 10) = .ok (.athrow, 1))
    (hout : ∀ x ∈ c.exceptionTable.toList, covers x (pc + 10) = false)
    (hRframes : 5 < R.frames) (hRlocals : (rest.map fun v => v.category).sum + 82 ≤ R.locals) (hRcells : cells + 1 ≤ R.cells) (hRslots : slots + 6 ≤ R.slots) (hlocks : meth.locks = false)
    (hx : ∀ t : State, s.vm.Alike t.vm → H.size ≤ t.heap.size → (∀ q : Nat, q < H.size → t.heap[q]? = H[q]?) → XC nsE s t)
    (hf : ∀ z ∈ locs, free z.base) (hc : cells + 1 ≤ mc) (hs : slots + 6 ≤ ms) :
    W p l e R s m args below meth c H locs cells slots (vx_MQ below Qc XC args s mc ms free) (F0 m pc ls rest) := by
  intro T hT X
  have htr : e.platform.stackTraces = false := (show e.platform.stackTraces = l.stackTraces by rw [X.admits.platform]).trans hl
  have Y := vx_rebase X (R' := { frames := R.frames, locals := R.locals, cells := 1, slots := 6 }) (Nat.le_refl _) (Nat.le_refl _) hRcells hRslots
  obtain ⟨s', hA⟩ : ∃ z, z = (T.setVm s.vm).setFrames (.invoking m args :: below) := ⟨_, rfl⟩
  rw [← hA] at Y
  have hvm : s'.vm = s.vm := by rw [hA]; rfl
  have hhp : s'.heap = H := by rw [hA]; exact hT
  have hW0 : s.WarmedH s'.vm := by rw [hvm]; exact State.WarmedH.refl s
  have hat' : ∀ w ∈ (at13 own ic).filter vx_no, w.before args s' = true := fun w hw => vx_ot_at hW0 hvm.symm (hgood w (List.mem_cons_of_mem _ (List.mem_cons_of_mem _ hw))) (hat w hw)
  have hk' : (Cond.classLink own ik nsE).before args s' = true := vx_ot_at hW0 hvm.symm (hgood _ List.mem_cons_self) hk
  have hini' : (Cond.initialized nsE).before args s' = true := vx_ot_at hW0 hvm.symm (hgood _ (List.mem_cons_of_mem _ List.mem_cons_self)) hini
  have hU' : vx_Zq Bundle.tN "UNASSIGNED_STACK" Bundle.steD A s' s'.heap := by rw [hhp]; exact vx_Zq.moved hW0.alike (hU.kept hS.2.1)
  have hN' : vx_Zq Bundle.tN "SUPPRESSED_SENTINEL" Bundle.listD A s' s'.heap := by rw [hhp]; exact vx_Zq.moved hW0.alike (hN.kept hS.2.1)
  have h : ∀ w ∈ at13 own ic, w.before args s' = true := vx_own hat' (vx_isRefq hU'.1) (vx_isRefq hN'.1) hU'.2.word hN'.2.word
  have hown' : s'.vm.findClass own = some m.cls := by rw [hvm]; exact hown
  have hins : (Cond.instantiable nsE 6).before args s' = true := ns_at h 1 rfl
  obtain ⟨vm₁, cX, kX, hfX, hkX, -, -, X₁, st1⟩ := Y.newCold hexec (own := own) (C := nsE) (index := ik) (n := 6) hown' hk' hins hini'
    (g := F0 m pc ls rest) rfl (by rw [hb]; exact d0) (Nat.le_refl _) (Nat.le_refl _)
  generalize hT1 : (T.setVm vm₁).pushCell { cls := cX, slots := kX.instanceTypes.map defaultValue, vm := .none } = T1 at X₁ st1
  have hcat : (Value.ref T.heap.size).category = 1 := rfl
  have hcellA : T1.heap[T.heap.size]? = some (freshCell cX kX) := by rw [← hT1]; exact State.heap_pushCell_size _ _
  have d3' : decode c.code (pc + 3) = .ok (.dup, 1) := by rw [hb]; exact d3
  have d4' : decode c.code (pc + 4) = .ok (.ldc_w is, 3) := by rw [hb]; exact d4
  have hstr' : vk_R own is text sa s' := vk_R.warm hW0 hstr
  obtain ⟨U, hsteps, hrun, hend, hW, hsame, ce, hce, hOc, hOv⟩ := x_ctor13 X₁ hexec htr (own := own) (ic := ic) hown' h hfX hkX hcellA (by rw [hhp, hT]; exact Nat.le_refl _) (txt := .ref sa) rfl
    (f := { method := m, pc := pc + 7, locals := ls, stack := .ref sa :: .ref T.heap.size :: .ref T.heap.size :: rest, locked := none }) rfl hsize rfl rfl (st := rest) rfl
    (by rw [hb]; exact d7) (by rw [hb]; exact d10) hout hRframes (by simp only [List.map_cons, List.sum_cons, hcat]; omega) hlocks
  obtain ⟨f1, f2⟩ := vx_frame hsame
  rw [hhp] at f1 f2
  have hWs : s.WarmedH U.vm := State.WarmedH.trans hW0 hW
  have hcl : s.vm.findClass nsE = some ce.cls := by
    have h9 := hOc
    rw [hvm] at h9
    exact h9
  have hall : s.sameButNew ({ U with vm := s.vm } : State) locs mc ms := by
    subst hA
    obtain ⟨e1, e2⟩ := hsame
    rw [State.setFrames_setFrames] at e1
    have h2 : (T.setVm s.vm).sameButNew ({ U with vm := s.vm } : State) [] (0 + 1) (0 + 6) := ⟨e1, e2⟩
    have h3 := X.same.trans h2
    rw [List.append_nil] at h3
    exact h3.mono hc hs
  refine ⟨U, ?_, .threw T.heap.size, hrun, hend, Or.inr ⟨T.heap.size, rfl, nsE, ce, locs, hx U hWs.alike f1 (fun q hq => f2 q hq (fun z hz => nomatch hz)), hce, hOv, hcl, hWs, hall, hf⟩⟩
  refine st1 _ ?_
  show Steps p.tables e below (T1.setTop { method := m, pc := pc + 3, locals := ls, stack := .ref T.heap.size :: rest, locked := none }) _
  jvm_step X₁.here [X₁.here.top, hexec, d3', Value.category]
  exact X₁.ldcStringW hexec (own := own) (text := text) (index := is) (a := sa) hown' hstr'.1 hstr'.2
    (g := { method := m, pc := pc + 4, locals := ls, stack := .ref T.heap.size :: .ref T.heap.size :: rest, locked := none }) rfl d4' _ hsteps
end thr14

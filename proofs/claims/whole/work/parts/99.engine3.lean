/-! rows for new cells: the cells made so far are SH.take k0; the rows of the memory from k0 on are blank -/
def Zr (k : Nat) (MI : Nat → Nat → Int32) (ML : Nat → Nat → Int64) (MR : Nat → Nat → Option Nat) : Prop := ∀ b, k ≤ b → ∀ j, MI b j = 0 ∧ ML b j = 0 ∧ MR b j = none
set_option maxRecDepth 100000 in
theorem SH_len : SH.length = 155 := by decide +kernel
theorem tk_len {k : Nat} (h : k ≤ 155) : (SH.take k).length = k := by
  rw [List.length_take, SH_len]
  omega
theorem tk_at {k a : Nat} {q : Nat × Nat} (h : a < k) (hq : SH[a]? = some q) : (SH.take k)[a]? = some q := by
  rw [List.getElem?_take_of_lt h]
  exact hq
theorem tk_lt {k : Nat} {q : Nat × Nat} (hq : SH[k]? = some q) : k < 155 := by
  have := (List.getElem?_eq_some_iff.mp hq).1
  rw [SH_len] at this
  exact this
theorem x_ws_app {X : xG} {sh : List (Nat × Nat)} {MI : Nat → Nat → Int32} {ML : Nat → Nat → Int64} {MR : Nat → Nat → Option Nat} {q : Nat × Nat} : x_ws X (sh ++ [q]) MI ML MR = x_ws X sh MI ML MR ++ [(x_ad X sh.length, x_cell X MI ML MR sh.length q)] := by
  unfold x_ws
  rw [List.length_append, List.length_singleton, List.range_succ, List.map_append]
  congr 1
  · apply List.map_congr_left
    intro a ha
    have hl := List.mem_range.mp ha
    simp [List.getD, List.getElem?_append_left hl]
  · simp [List.getD]
theorem x_ws_cg {X : xG} {sh : List (Nat × Nat)} {MI MI' : Nat → Nat → Int32} {ML ML' : Nat → Nat → Int64} {MR MR' : Nat → Nat → Option Nat} (h : ∀ b, b < sh.length → MI b = MI' b ∧ ML b = ML' b ∧ MR b = MR' b) : x_ws X sh MI ML MR = x_ws X sh MI' ML' MR' := by
  unfold x_ws
  apply List.map_congr_left
  intro a ha
  obtain ⟨h1, h2, h3⟩ := h a (List.mem_range.mp ha)
  rw [x_cell_congr _ h1 h2 h3]
theorem tk_succ {k : Nat} {q : Nat × Nat} (hq : SH[k]? = some q) : SH.take (k + 1) = SH.take k ++ [q] := by
  rw [List.take_add_one, hq]
  rfl
theorem x_grow {X : xG} {k : Nat} {MI : Nat → Nat → Int32} {ML : Nat → Nat → Int64} {MR : Nat → Nat → Option Nat} {q : Nat × Nat} {H1 : Heap} (hq : SH[k]? = some q) (hP : va_P X.2.1 vwCl (x_ws X (SH.take k) MI ML MR) H1) (hc : va_at X.2.1 vwCl (X.2.2.2.1.heap.size + k, x_cell X MI ML MR k q) H1) : va_P X.2.1 vwCl (x_ws X (SH.take (k + 1)) MI ML MR) H1 := by
  have hk := tk_lt hq
  rw [tk_succ hq, x_ws_app, tk_len (by omega), x_ad_lt (by omega)]
  refine hP.app (fun j x hx => ?_)
  have hz : j < 1 := (List.getElem?_eq_some_iff.mp hx).1
  rw [show j = 0 by omega] at hx
  cases hx
  exact hc
theorem x_cell_o {X : xG} {MI : Nat → Nat → Int32} {ML : Nat → Nat → Int64} {MR : Nat → Nat → Option Nat} {a ci N : Nat} (h : ci < 12) : x_cell X MI ML MR a (ci, N) = .inr (ci, x_fs X MI ML MR a ci N) := by
  unfold x_cell
  rw [if_pos h]
theorem x_cell_a {X : xG} {MI : Nat → Nat → Int32} {ML : Nat → Nat → Int64} {MR : Nat → Nat → Option Nat} {a kd N : Nat} (h : ¬ kd < 12) : x_cell X MI ML MR a (kd, N) = .inl (X.2.2.1 kd, N, x_ac X MI ML MR a kd) := by
  unfold x_cell
  rw [if_neg h]
def x_dv (t : Nat) : Value := if t = 0 then .int 0 else if t = 1 then .long 0 else .null
theorem x_S_grow {X : xG} {H0 H H1 : Heap} {locs : List Loc} (hS : va_S (x_A X) H0 H locs) (hz : H.size ≤ H1.size) (ho : ∀ q, q < H.size → H1[q]? = H[q]?) : va_S (x_A X) H0 H1 locs := ⟨Nat.le_trans hS.1 hz, fun x h1 h2 => (ho x (Nat.lt_of_lt_of_le h1 hS.1)).trans (hS.2.1 x h1 h2), hS.2.2⟩
theorem x_outer (c : ClassId) (N h0 : Nat) (i : Nat) : Jvm.Free.Multi.outerC c N h0 i = arrV c N (fun j => va_rf (if j < i then some (h0 + 1 + j) else none)) := by
  induction i with
  | zero =>
    show ({ cls := c, slots := Array.replicate N .null, vm := .none } : Cell) = _
    rw [arrV_new]
    congr 1
  | succ i ih =>
    show (Jvm.Free.Multi.outerC c N h0 i).setSlot i (.ref (h0 + 1 + i)) = _
    rw [ih, arrV_store]
    congr 1
    funext j
    unfold updV
    by_cases e : j = i
    · have h1 : j < i + 1 := by omega
      subst e
      simp [va_rf]
    · by_cases h : j < i
      · have h1 : j < i + 1 := by omega
        simp [e, h, h1]
      · have h1 : ¬ j < i + 1 := by omega
        simp [e, h, h1]
/-- arrays over these are known at the start -/
def x_OV (X : xG) : Prop := va_AO "BurstDesk$Demands" X.2.2.2.1 ∧ va_AO "BurstDesk$Sheet" X.2.2.2.1 ∧ (Cond.arrayOver (.array .int)).before #[] X.2.2.2.1 = true
theorem x_OVm {u U : State} {A A' : Array Value} (hvm : u.vm.Alike U.vm) (h : (Cond.arrayOver (.array .int)).before A u = true) : (Cond.arrayOver (.array .int)).before A' U = true := Jvm.Stand.arrayOver_alikeB hvm h
section RWnew
variable {X : xG} {G : xM} {own : String} {cc : ByteArray} {nL : Nat} {R : Room} {k0 : Nat} {MI : Nat → Nat → Int32} {ML : Nat → Nat → Int64} {MR : Nat → Nat → Option Nat} {cells slots pc : Nat} {ls : List (Nat × Value)} {st : List Value}
theorem r_new {idx ci N : Nat} {C : String} {T : u_T} {ty : Nat → FieldType} (hd : decode cc pc = .ok (.new idx, 3)) (hq : SH[k0]? = some (ci, N)) (hC : x_C ci C T N ty) (hci : ci < 12) (hcl : Cond.classLink own idx C ∈ x_T) (hni : Cond.instantiable C N ∈ x_T) (hii : Cond.initialized C ∈ x_T) (hdf : ∀ j, j < N → defaultValue (ty j) = x_dv (x_tf ci j)) (hz : Zr k0 MI ML MR) (hcells : cells + 1 ≤ R.cells) (hslots : slots + N ≤ R.slots)
    (k : RW X G own cc nL R (k0 + 1 + 1) (SH.take (k0 + 1)) MI ML MR (cells + 1) (slots + N) (pc + 3) ls (.ref k0 :: st)) : RW X G own cc nL R (k0 + 1) (SH.take k0) MI ML MR cells slots pc ls st := by
  obtain ⟨p, e, s, m, args, below, meth, c, rt, mn, Q⟩ := G
  intro O H locs la hP hL hS hl hn
  have hkl := tk_lt hq
  have hHs : H.size = X.2.2.2.1.heap.size + k0 := by have := hn (by omega); omega
  have hts := O.2.2.2.2.1
  obtain ⟨c1, c2, c3, c4⟩ := hC
  have hKn := O.2.2.2.2.2.1.1.1 ci _ c1
  refine W.newcK O.1 O.2.1 O.2.2.2.1 (hts _ hcl) (hts _ hni) (hts _ hii) rfl hd hcells hslots hKn.2.1 hHs fun H1 kC hkC e1 z1 o1 => ?_
  rw [← hHs] at o1
  have hP1 : va_P X.2.1 vwCl (x_ws X (SH.take (k0 + 1)) MI ML MR) H1 := by
    refine x_grow hq (hP.kept fun k x hx => o1 x.1 ((hP k x hx).lt)) ?_
    rw [x_cell_o hci]
    refine ⟨_, c1, (u_born ty hts c2 hKn hkC e1 c3).to (fun j hj => ?_)⟩
    rw [hdf j hj]
    unfold vp_V
    rw [List.getD, x_fs_at hj]
    obtain ⟨g1, g2, g3⟩ := hz k0 (Nat.le_refl _) j
    unfold x_dv x_fv
    rw [g1, g2, g3]
    rfl
  have hk := k O H1 locs la hP1 (by rw [tk_len (by omega)]; omega) (x_S_grow hS (by omega) o1) hl (fun _ => by omega)
  have he : (Value.ref k0 :: st).map (x_rv X) = .ref (X.2.2.2.1.heap.size + k0) :: st.map (x_rv X) := by
    rw [List.map_cons]
    show Value.ref (x_ad X k0) :: _ = _
    rw [x_ad_lt (by omega)]
  rw [he] at hk
  exact hk
theorem r_newa {atype : ArrayType} {kd N : Nat} {v : Int32} (hd : decode cc pc = .ok (.newarray atype, 2)) (hq : SH[k0]? = some (kd, N)) (hkd : ¬ kd < 12) (harr : Cond.arrayClass (newarray.typeOf atype) ∈ x_T) (hty : (x_tys X)[kd - 12]? = some (X.2.2.1 kd, newarray.typeOf atype)) (hac : ∀ (MI : Nat → Nat → Int32) (ML : Nat → Nat → Int64) (MR : Nat → Nat → Option Nat) (cA : ClassId), (∀ j, MI k0 j = 0 ∧ ML k0 j = 0 ∧ MR k0 j = none) → vp_cell cA (N, x_ac X MI ML MR k0 kd) = arrV cA N (fun _ => defaultValue (newarray.typeOf atype))) (hv0 : ¬ v < 0) (hv : v.toNatClampNeg = N) (hby : N * componentBytes (newarray.typeOf atype) ≤ 536870912) (hz : Zr k0 MI ML MR) (hcells : cells + 1 ≤ R.cells) (hslots : slots + N ≤ R.slots)
    (k : RW X G own cc nL R (k0 + 1 + 1) (SH.take (k0 + 1)) MI ML MR (cells + 1) (slots + N) (pc + 2) ls (.ref k0 :: st)) : RW X G own cc nL R (k0 + 1) (SH.take k0) MI ML MR cells slots pc ls (.int v :: st) := by
  obtain ⟨p, e, s, m, args, below, meth, c, rt, mn, Q⟩ := G
  intro O H locs la hP hL hS hl hn
  have hkl := tk_lt hq
  have hHs : H.size = X.2.2.2.1.heap.size + k0 := by have := hn (by omega); omega
  have hts := O.2.2.2.2.1
  refine va_newaK O.1 O.2.1 (hts _ harr) rfl hd rfl hv0 hv hby hcells hslots hHs fun H1 cA e1 z1 o1 hAr hNm => ?_
  have hRA := (O.2.2.2.2.2.1.1.2 _ _ hty).2
  have hcA : cA = X.2.2.1 kd := by
    have h2 : s.vm.findClass ("[" ++ (newarray.typeOf atype).toString) = some (X.2.2.1 kd) := by cases atype <;> exact hRA
    rw [hNm] at h2
    exact Option.some.inj h2
  subst hcA
  rw [← hHs] at o1
  have hP1 : va_P X.2.1 vwCl (x_ws X (SH.take (k0 + 1)) MI ML MR) H1 := by
    refine x_grow hq (hP.kept fun k x hx => o1 x.1 ((hP k x hx).lt)) ?_
    rw [x_cell_a hkd]
    show H1[X.2.2.2.1.heap.size + k0]? = some (vp_cell _ _)
    rw [hac MI ML MR _ (hz k0 (Nat.le_refl _))]
    exact e1
  have hk := k O H1 locs la hP1 (by rw [tk_len (by omega)]; omega) (x_S_grow hS (by omega) o1) hl (fun _ => by omega)
  have he : (Value.ref k0 :: st).map (x_rv X) = .ref (X.2.2.2.1.heap.size + k0) :: st.map (x_rv X) := by
    rw [List.map_cons]
    show Value.ref (x_ad X k0) :: _ = _
    rw [x_ad_lt (by omega)]
  rw [he] at hk
  exact hk
/-- a heap with one cell more -/
theorem x_push (H : Heap) (z : Cell) : ∃ H1 : Heap, H1.size = H.size + 1 ∧ H1[H.size]? = some z ∧ (∀ q : Nat, q < H.size → H1[q]? = H[q]?) ∧ H1 = H.push z :=
  ⟨_, Array.size_push _, Array.getElem?_push_size, fun q hq => by rw [Array.getElem?_push, if_neg (Nat.ne_of_lt hq)], rfl⟩
theorem r_anew {idx kd N : Nat} {C : String} {v : Int32} (hd : decode cc pc = .ok (.anewarray idx, 3)) (hq : SH[k0]? = some (kd, N)) (hkd : 16 ≤ kd) (hcl : Cond.classLink own idx C ∈ x_T) (hov : va_AO C X.2.2.2.1) (hty : (x_tys X)[kd - 12]? = some (X.2.2.1 kd, .object C)) (hv0 : ¬ v < 0) (hv : v.toNatClampNeg = N) (hby : N * 4 ≤ 536870912) (hz : Zr k0 MI ML MR) (hcells : cells + 1 ≤ R.cells) (hslots : slots + N ≤ R.slots)
    (k : RW X G own cc nL R (k0 + 1 + 1) (SH.take (k0 + 1)) MI ML MR (cells + 1) (slots + N) (pc + 3) ls (.ref k0 :: st)) : RW X G own cc nL R (k0 + 1) (SH.take k0) MI ML MR cells slots pc ls (.int v :: st) := by
  obtain ⟨p, e, s, m, args, below, meth, c, rt, mn, Q⟩ := G
  intro O H locs la hP hL hS hl hn
  have hkl := tk_lt hq
  have hHs : H.size = X.2.2.2.1.heap.size + k0 := by have := hn (by omega); omega
  have hts := O.2.2.2.2.1
  subst hv
  refine W.anew O.1 O.2.1 O.2.2.2.1 (hts _ hcl) (va_AO.use (hov.moved O.2.2.2.2.2.1.2.2.1)) rfl hd rfl hv0 hby hcells hslots fun cA kA comp f1 f2 f3 f4 => ?_
  rw [arrV_new]
  obtain ⟨H1, z1, e1, o1, hH1⟩ := x_push H (arrV cA v.toNatClampNeg (fun _ => .null))
  rw [← hH1]
  obtain ⟨kA', comp', -, -, -, hRA⟩ := (O.2.2.2.2.2.1.1.2 _ _ hty).2
  have hcA : cA = X.2.2.1 kd := by
    rw [f1] at hRA
    exact Option.some.inj hRA
  subst hcA
  have hP1 : va_P X.2.1 vwCl (x_ws X (SH.take (k0 + 1)) MI ML MR) H1 := by
    refine x_grow hq (hP.kept fun k x hx => o1 x.1 ((hP k x hx).lt)) ?_
    rw [x_cell_a (by omega)]
    show H1[X.2.2.2.1.heap.size + k0]? = some (vp_cell _ _)
    unfold x_ac
    have h14 : ¬ kd = 14 := by omega
    have h16 : ¬ kd < 16 := by omega
    rw [if_neg h14, if_neg h16, ← hHs, e1, vp_cell_q]
    congr 2
    funext j
    rw [(hz k0 (Nat.le_refl _) j).2.2]
    rfl
  have hk := k O H1 locs la hP1 (by rw [tk_len (by omega)]; omega) (x_S_grow hS (by omega) o1) hl (fun _ => by omega)
  have he : (Value.ref k0 :: st).map (x_rv X) = .ref H.size :: st.map (x_rv X) := by
    rw [List.map_cons]
    show Value.ref (x_ad X k0) :: _ = _
    rw [x_ad_lt (by omega), hHs]
  rw [he] at hk
  exact hk
theorem r_obj {a idx : Nat} (hd : decode cc pc = .ok (.invokespecial idx, 3)) (hlk : Cond.methodLink own idx Lib.objectInit ∈ x_T) (hfr : 1 ≤ R.frames) (hct : (st.map (fun v => v.category)).sum + 12 ≤ R.locals) {n : Nat} {sh : List (Nat × Nat)}
    (k : RW X G own cc nL R n sh MI ML MR cells slots (pc + 3) ls st) : RW X G own cc nL R n sh MI ML MR cells slots pc ls (.ref a :: st) := by
  obtain ⟨p, e, s, m, args, below, meth, c, rt, mn, Q⟩ := G
  intro O H locs la hP hL hS hl hn
  have hts := O.2.2.2.2.1
  have hcat : ((st.map (x_rv X)).map fun v => v.category).sum + 12 ≤ R.locals := by
    rw [List.map_map]
    have : ((fun v : Value => v.category) ∘ x_rv X) = fun v => v.category := funext fun v => x_cat X v
    rw [this]
    exact hct
  refine W.objInit O.1 O.2.1 O.2.2.2.1 (hts _ hlk) (hts _ oi_i) (hts _ oi_c) rfl ?_ rfl hd hfr ?_ (k O H locs la hP hL hS hl hn)
  · rw [O.2.2.1]
    exact hl.1
  · show 2 * 0 + _ + 12 ≤ R.locals
    omega
theorem r_mna {idx N K : Nat} {v w : Int32} (hOV : x_OV X) (hd : decode cc pc = .ok (.multianewarray idx 2, 4)) (hq : SH[k0]? = some (18, N)) (hrs : ∀ i, i < N → SH[k0 + 1 + i]? = some (13, K)) (hcl : Cond.classLink own idx "[[I" ∈ x_T) (hv0 : ¬ v < 0) (hv : v.toNatClampNeg = N) (hw0 : ¬ w < 0) (hw : w.toNatClampNeg = K) (hby : N * 4 ≤ 536870912) (hby2 : K * 4 ≤ 536870912) (hz : Zr k0 MI ML MR) (hcells : cells + (1 + N) ≤ R.cells) (hslots : slots + (N + N * K) ≤ R.slots)
    (k : RW X G own cc nL R (k0 + 1 + N + 1) (SH.take (k0 + 1 + N)) MI ML (sr MR k0 (fun i => if i < N then some (k0 + 1 + i) else none)) (cells + 1 + N) (slots + N + N * K) (pc + 4) ls (.ref k0 :: st)) : RW X G own cc nL R (k0 + 1) (SH.take k0) MI ML MR cells slots pc ls (.int w :: .int v :: st) := by
  obtain ⟨p, e, s, m, args, below, meth, c, rt, mn, Q⟩ := G
  intro O H locs la hP hL hS hl hn
  have hkl := tk_lt hq
  have hHs : H.size = X.2.2.2.1.heap.size + k0 := by have := hn (by omega); omega
  have hts := O.2.2.2.2.1
  have hlN : k0 + N < 155 := by
    by_cases h0 : N = 0
    · omega
    · have := tk_lt (hrs (N - 1) (by omega))
      omega
  subst hv
  subst hw
  have hK13 : s.vm.findClass "[I" = some (X.2.2.1 13) := (O.2.2.2.2.2.1.1.2 1 _ rfl).2
  have hK18 : s.vm.findClass "[[I" = some (X.2.2.1 18) := (O.2.2.2.2.2.1.1.2 6 _ rfl).2
  intro T hT Xs
  obtain ⟨vm₁, cA, comp, -, fA, fC, -, -, X', step⟩ := Xs.multianewarray2F O.1 O.2.2.2.1 (ty := .int) (hts _ hcl) (x_OVm O.2.2.2.2.2.1.2.2.1 hOV.2.2) (hts _ na_int) (g := F0 m pc la (.int w :: .int v :: st.map (x_rv X))) rfl (by rw [O.2.1]; exact hd) rfl hv0 hw0 hby hby2 (by omega) rfl rfl hcells hslots
  have eC : some (X.2.2.1 13) = some comp := hK13.symm.trans fC
  have eA : some (X.2.2.1 18) = some cA := hK18.symm.trans fA
  cases eC
  cases eA
  generalize hF : Jvm.Free.Multi.fill (T.setVm vm₁) (X.2.2.1 18) (X.2.2.1 13) v.toNatClampNeg w.toNatClampNeg (defaultValue .int) v.toNatClampNeg = F at X' step
  have hTh : (T.setVm vm₁).heap = H := hT
  obtain ⟨f1, f2, -, -⟩ := Jvm.Free.Multi.fill_facts (T.setVm vm₁) (X.2.2.1 18) (X.2.2.1 13) v.toNatClampNeg w.toNatClampNeg (defaultValue .int) v.toNatClampNeg
  rw [hF, hTh] at f1 f2
  have hold : ∀ x : Nat, x < H.size → F.heap[x]? = H[x]? := fun x hx => by
    have := Jvm.Free.Multi.fill_old (T.setVm vm₁) (X.2.2.1 18) (X.2.2.1 13) v.toNatClampNeg w.toNatClampNeg (defaultValue .int) (a := x) (by rw [hTh]; exact hx) v.toNatClampNeg
    rw [hF, hTh] at this
    exact this
  have hrow : ∀ j : Nat, j < v.toNatClampNeg → F.heap[H.size + 1 + j]? = some (arrV (X.2.2.1 13) w.toNatClampNeg (fun _ => .int 0)) := fun j hj => by
    have := Jvm.Free.Multi.fill_inner (T.setVm vm₁) (X.2.2.1 18) (X.2.2.1 13) v.toNatClampNeg w.toNatClampNeg (defaultValue .int) v.toNatClampNeg j hj
    rw [hF, hTh] at this
    rw [this, ← arrV_new]
    rfl
  rw [x_outer] at f2
  have hcg : x_ws X (SH.take k0) MI ML MR = x_ws X (SH.take k0) MI ML (sr MR k0 (fun i => if i < v.toNatClampNeg then some (k0 + 1 + i) else none)) := by
    refine x_ws_cg (fun b hb => ⟨rfl, rfl, ?_⟩)
    rw [tk_len (by omega)] at hb
    funext j
    unfold sr
    rw [if_neg (by omega)]
  rw [hcg] at hP
  have hP0 := hP.kept (H1 := F.heap) fun k x hx => hold x.1 ((hP k x hx).lt)
  have hP1 := x_grow hq hP0 (by
    rw [x_cell_a (by decide)]
    show F.heap[X.2.2.2.1.heap.size + k0]? = some (vp_cell (X.2.2.1 18) (v.toNatClampNeg, .inr (.inr (.inr (.inr (fun j => ((sr MR k0 (fun i => if i < v.toNatClampNeg then some (k0 + 1 + i) else none)) k0 j).map (x_ad X)))))))
    rw [← hHs, f2, vp_cell_q]
    congr 2
    funext j
    unfold sr
    rw [if_pos rfl]
    by_cases hj : j < v.toNatClampNeg
    · have hlt : k0 + 1 + j < 1000 := by omega
      simp only [hj, if_true, Option.map_some]
      rw [x_ad_lt hlt, hHs, Nat.add_assoc _ k0 1, Nat.add_assoc _ (k0 + 1) j]
    · simp only [hj, if_false, Option.map_none])
  have hP2 : ∀ i, i ≤ v.toNatClampNeg → va_P X.2.1 vwCl (x_ws X (SH.take (k0 + 1 + i)) MI ML (sr MR k0 (fun i => if i < v.toNatClampNeg then some (k0 + 1 + i) else none))) F.heap := by
    intro i
    induction i with
    | zero => exact fun _ => hP1
    | succ i ih =>
      intro hi
      refine x_grow (hrs i (by omega)) (ih (by omega)) ?_
      rw [x_cell_a (by decide)]
      show F.heap[X.2.2.2.1.heap.size + (k0 + 1 + i)]? = some (vp_cell (X.2.2.1 13) (w.toNatClampNeg, .inl (MI (k0 + 1 + i))))
      rw [show X.2.2.2.1.heap.size + (k0 + 1 + i) = H.size + 1 + i by omega, hrow i (by omega), vp_cell_i]
      congr 2
      funext j
      rw [(hz (k0 + 1 + i) (by omega) j).1]
  have hk := k O F.heap locs la (hP2 _ (Nat.le_refl _)) (by rw [tk_len (by omega)]; omega) (x_S_grow hS (by omega) hold) hl (fun _ => by omega)
  obtain ⟨t, a1, b1⟩ := hk F rfl X'
  refine ⟨t, step t ?_, b1⟩
  have he : (Value.ref k0 :: st).map (x_rv X) = .ref T.heap.size :: st.map (x_rv X) := by
    rw [List.map_cons]
    show Value.ref (x_ad X k0) :: _ = _
    have hT' : T.heap.size = H.size := by rw [← hTh]; rfl
    rw [x_ad_lt (by omega), hT', hHs]
  rw [he] at a1
  exact a1
theorem r_aastO {a b kd N ci K : Nat} {C : String} {T : u_T} {i : Int32} {n : Nat} {sh : List (Nat × Nat)} (hd : decode cc pc = .ok (.aastore, 1)) (hs : sh[a]? = some (kd, N)) (hkd : 16 ≤ kd) (hv : sh[b]? = some (ci, K)) (hci : ci < 12) (hc : vwCl[ci]? = some (C, T, K)) (hty : (x_tys X)[kd - 12]? = some (X.2.2.1 kd, .object C)) (hi : vp_in i N)
    (k : RW X G own cc nL R n sh MI ML (u2 MR a i.toNatClampNeg (some b)) cells slots (pc + 1) ls st) : RW X G own cc nL R n sh MI ML MR cells slots pc ls (.ref b :: .int i :: .ref a :: st) := by
  obtain ⟨p, e, s, m, args, below, meth, c, rt, mn, Q⟩ := G
  intro O H locs la hP hL hS hl hn
  have hlt : i.toNatClampNeg < N := Nat.not_le.mp fun q => hi (Or.inr q)
  have h0 : ¬ i < 0 := fun q => hi (Or.inl q)
  have hkd2 : ¬ kd < 12 := by omega
  have hac : ∀ M : Nat → Nat → Option Nat, x_ac X MI ML M a kd = .inr (.inr (.inr (.inr (fun j => (M a j).map (x_ad X))))) := fun M => by
    unfold x_ac
    have h14 : ¬ kd = 14 := by omega
    have h16 : ¬ kd < 16 := by omega
    rw [if_neg h14, if_neg h16]
  have hK := O.2.2.2.2.2.1.1
  have hxa := x_arr (X := X) (MI := MI) (ML := ML) (MR := MR) hs hkd2
  have hAx : x_A X (x_ad X a) := (x_D (MI := MI) (ML := ML) (MR := MR) hL).2 a _ hxa
  have hcA := hP a _ hxa
  rw [hac] at hcA
  obtain ⟨r', hr', cellV, g1, g2, g3, -⟩ := hP b _ (x_obj hv hci)
  have hcls := (hK.1 ci _ hc).2
  obtain ⟨kA, comp, k1, k2, k3, -⟩ := (hK.2 _ _ hty).2
  have hcomp : comp = X.2.1.1 ci := Option.some.inj (k3.symm.trans hcls.1)
  subst hcomp
  obtain ⟨kC, hkC, -⟩ := hcls.2
  refine W.aast O.1 O.2.1 hcA (fun q h => by cases h) (fun h => by cases h) k1 k2 rfl hkC ⟨h0, by show _ < (arrV _ _ _).slots.size; rw [arrV_size]; exact hlt⟩ g1 (fun q h => by rw [g3] at h; cases h) (by rw [g2]; exact hkC) (by rw [g2]; exact x_asg _ _) rfl rfl hd (fun H1 e z oq => ?_)
  have hset : (x_ws X sh MI ML MR).set a (x_ad X a, .inl (X.2.2.1 kd, N, x_ac X MI ML (u2 MR a i.toNatClampNeg (some b)) a kd)) = x_ws X sh MI ML (u2 MR a i.toNatClampNeg (some b)) := by
    refine x_ws_set hs ?_ (fun b hb => rfl) (fun b hb => rfl) (fun b hb => u2_row _ _ hb)
    rw [x_cell_a hkd2]
  have hP1 := hP.set (x_D hL) (x_arr hs hkd2) (e := .inl (X.2.2.1 kd, N, x_ac X MI ML (u2 MR a i.toNatClampNeg (some b)) a kd)) (H1 := H1) ?_ oq
  · rw [hset] at hP1
    exact k O H1 _ la hP1 hL (hS.put z oq hAx) hl (fun q => by rw [z]; exact hn q)
  · show H1[x_ad X a]? = some (vp_cell _ _)
    rw [e, hac]
    show some ((arrV (X.2.2.1 kd) N (fun j => va_rf ((MR a j).map (x_ad X)))).setSlot _ _) = some (arrV (X.2.2.1 kd) N (fun j => va_rf ((u2 MR a i.toNatClampNeg (some b) a j).map (x_ad X))))
    rw [arrV_store]
    congr 2
    funext q
    by_cases hq : q = i.toNatClampNeg
    · subst hq
      simp [updV, u2, va_rf]
    · simp [updV, u2, hq]
end RWnew
/-! blank rows stay blank -/
theorem Zr.w {k k' : Nat} {MI : Nat → Nat → Int32} {ML : Nat → Nat → Int64} {MR : Nat → Nat → Option Nat} (h : Zr k MI ML MR) (hk : k ≤ k') : Zr k' MI ML MR := fun b hb => h b (Nat.le_trans hk hb)
theorem Zr_i {k a j : Nat} {x : Int32} {MI : Nat → Nat → Int32} {ML : Nat → Nat → Int64} {MR : Nat → Nat → Option Nat} (h : Zr k MI ML MR) (ha : a < k) : Zr k (u2 MI a j x) ML MR := fun b hb i => ⟨by rw [u2_ne _ _ (fun q => by omega)]; exact (h b hb i).1, (h b hb i).2⟩
theorem Zr_l {k a j : Nat} {x : Int64} {MI : Nat → Nat → Int32} {ML : Nat → Nat → Int64} {MR : Nat → Nat → Option Nat} (h : Zr k MI ML MR) (ha : a < k) : Zr k MI (u2 ML a j x) MR := fun b hb i => ⟨(h b hb i).1, by rw [u2_ne _ _ (fun q => by omega)]; exact (h b hb i).2.1, (h b hb i).2.2⟩
theorem Zr_r {k a j : Nat} {x : Option Nat} {MI : Nat → Nat → Int32} {ML : Nat → Nat → Int64} {MR : Nat → Nat → Option Nat} (h : Zr k MI ML MR) (ha : a < k) : Zr k MI ML (u2 MR a j x) := fun b hb i => ⟨(h b hb i).1, (h b hb i).2.1, by rw [u2_ne _ _ (fun q => by omega)]; exact (h b hb i).2.2⟩
theorem Zr_s {k a : Nat} {f : Nat → Option Nat} {MI : Nat → Nat → Int32} {ML : Nat → Nat → Int64} {MR : Nat → Nat → Option Nat} (h : Zr k MI ML MR) (ha : a < k) : Zr k MI ML (sr MR a f) := fun b hb i => ⟨(h b hb i).1, (h b hb i).2.1, by unfold sr; rw [if_neg (show ¬ b = a by omega)]; exact (h b hb i).2.2⟩
theorem Zr_sl {k a : Nat} {f : Nat → Int64} {MI : Nat → Nat → Int32} {ML : Nat → Nat → Int64} {MR : Nat → Nat → Option Nat} (h : Zr k MI ML MR) (ha : a < k) : Zr k MI (sr ML a f) MR := fun b hb i => ⟨(h b hb i).1, by unfold sr; rw [if_neg (show ¬ b = a by omega)]; exact (h b hb i).2.1, (h b hb i).2.2⟩
theorem Zr_si {k a : Nat} {f : Nat → Int32} {MI : Nat → Nat → Int32} {ML : Nat → Nat → Int64} {MR : Nat → Nat → Option Nat} (h : Zr k MI ML MR) (ha : a < k) : Zr k (sr MI a f) ML MR := fun b hb i => ⟨by unfold sr; rw [if_neg (show ¬ b = a by omega)]; exact (h b hb i).1, (h b hb i).2⟩
/-! what a field, an element is at first -/
theorem dv_0 : ∀ j, j < 3 → defaultValue (tyX0 j) = x_dv (x_tf 0 j) := by decide
theorem dv_1 : ∀ j, j < 6 → defaultValue (tyX1 j) = x_dv (x_tf 1 j) := by decide
theorem dv_2 : ∀ j, j < 1 → defaultValue (tyX2 j) = x_dv (x_tf 2 j) := by decide
theorem dv_3 : ∀ j, j < 2 → defaultValue (tyX3 j) = x_dv (x_tf 3 j) := by decide
theorem dv_4 : ∀ j, j < 4 → defaultValue (tyX4 j) = x_dv (x_tf 4 j) := by decide
theorem dv_5 : ∀ j, j < 11 → defaultValue (tyX5 j) = x_dv (x_tf 5 j) := by decide
theorem dv_6 : ∀ j, j < 11 → defaultValue (tyX6 j) = x_dv (x_tf 6 j) := by decide
theorem dv_7 : ∀ j, j < 19 → defaultValue (tyX7 j) = x_dv (x_tf 7 j) := by decide
theorem dv_8 : ∀ j, j < 14 → defaultValue (tyX8 j) = x_dv (x_tf 8 j) := by decide
theorem dv_9 : ∀ j, j < 3 → defaultValue (tyX9 j) = x_dv (x_tf 9 j) := by decide
theorem dv_10 : ∀ j, j < 10 → defaultValue (tyX10 j) = x_dv (x_tf 10 j) := by decide
theorem dv_11 : ∀ j, j < 53 → defaultValue (tyX11 j) = x_dv (x_tf 11 j) := by decide
theorem ac_i {X : xG} {k0 N kd : Nat} (h : kd = 12 ∨ kd = 13 ∨ kd = 15) (MI : Nat → Nat → Int32) (ML : Nat → Nat → Int64) (MR : Nat → Nat → Option Nat) (cA : ClassId) (hz : ∀ j, MI k0 j = 0 ∧ ML k0 j = 0 ∧ MR k0 j = none) : vp_cell cA (N, x_ac X MI ML MR k0 kd) = arrV cA N (fun _ => .int 0) := by
  unfold x_ac
  have h14 : ¬ kd = 14 := by omega
  have h16 : kd < 16 := by omega
  rw [if_neg h14, if_pos h16, vp_cell_i]
  congr 1
  funext j
  rw [(hz j).1]
theorem ac_l {X : xG} {k0 N : Nat} (MI : Nat → Nat → Int32) (ML : Nat → Nat → Int64) (MR : Nat → Nat → Option Nat) (cA : ClassId) (hz : ∀ j, MI k0 j = 0 ∧ ML k0 j = 0 ∧ MR k0 j = none) : vp_cell cA (N, x_ac X MI ML MR k0 14) = arrV cA N (fun _ => .long 0) := by
  show vp_cell cA (N, .inr (.inl (ML k0))) = _
  rw [vp_cell_l]
  congr 1
  funext j
  rw [(hz j).2.1]
theorem x_GI_mn {X : xG} {G : xM} {rt : Option FieldType} {mn : String} {n : Nat} {sh : List (Nat × Nat)} {mc ms : Nat} {Qv : xQ} (h : x_GI X G rt mn n sh mc ms Qv) : G.2.2.2.2.2.2.2.2.2.1 = mn := by
  obtain ⟨p, e, s, m, args, below, meth, c, rt, mn, Q⟩ := G
  exact h.2.1

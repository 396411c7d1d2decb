/-! from the law's entry to the head of its loop -/
theorem law_enter {p : Program} {e : Env} {s : State} {m : MethodId} {below : List Frame} {meth : Method} {c : Code} {l : Launch} {b L : Nat} {xs : Nat → Int32} {Q : State → Prop} (hx : p.tables.exec = Jvm.exec) (hb : c.code = code) (hr : meth.sig.returnType = ret) (hml : c.maxLocals = 7) (hown : s.vm.findClass RL = some m.cls) (hts : ∀ w ∈ lw_tbl, w.before #[Value.ref b] s = true) (hX : va_X b L xs s s.heap) (hbl : b < s.heap.size) (hlk : meth.locks = false) (hgv : (Jvm.Cond.and given_1 narrow_1).before #[Value.ref b] s = true)
    (k : ∀ X : xG, X.1 = l → X.2.2.2.1 = s → X.2.2.2.2 1300 = b → x_Env X s → x_AA X → x_OV X → x_St X → x_S2 X → x_Sc X (p, e, s, m, #[Value.ref b], below, meth, c, ret, meth.name, Q) L xs → RW X (p, e, s, m, #[Value.ref b], below, meth, c, ret, meth.name, Q) RL cL_law 7 room_1 0 SH mi0 ml0 mr0 155 16361 23 [(4, .int 0), (3, .ref 154), (2, .ref 124), (1, .ref 0), (0, .ref 1300)] []) :
    W p l e room_1 s m #[Value.ref b] below meth c s.heap [] 0 0 Q (entryFrame m ([Value.ref b] : List Value).toArray 7) := by
  obtain ⟨X, h1, h2, h3, hE, hAA, hOV, hSt, hS2⟩ := env_X l b hts hgv
  have hSc : x_Sc X (p, e, s, m, #[Value.ref b], below, meth, c, ret, meth.name, Q) L xs := by
    refine ⟨?_, ?_⟩
    · rw [h3]
      exact hX
    · rw [h3, h2]
      exact hbl
  have hk := law_made hSt hOV (k X h1 h2 h3 hE hAA hOV hSt hS2 hSc)
  have hl := lv_entry (([Value.ref 1300] : List Value).map (x_rv X)) (n := 7) (by rw [x_sl]; decide)
  have ha : ([Value.ref 1300] : List Value).map (x_rv X) = [Value.ref b] := by
    show [Value.ref (x_ad X 1300)] = _
    rw [x_ad_ge (by decide), h3]
  rw [lg_entry_eq]
  rw [ha] at hl
  generalize (lg_sl ([Value.ref b] : List Value) ++ List.replicate (7 - (lg_sl ([Value.ref b] : List Value)).length) Slot.unset).toArray = la at hl ⊢
  rw [← ha, x_args] at hl
  have hP : va_P X.2.1 vwCl (x_ws X (SH.take 0) (fun _ _ => 0) (fun _ _ => 0) (fun _ _ => none)) s.heap := fun k q h => by cases h
  subst h1
  exact hk ⟨hx, hb, hml, hown, fun w hw => hts w (List.mem_filter.mp hw).1, hE, hr, hlk, rfl⟩ s.heap [] la hP (by decide) va_S.rf hl (fun _ => by rw [h2])

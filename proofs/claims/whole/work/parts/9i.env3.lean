/-! the world at the law's entry, whole -/
theorem ls_ones : Cond.laysStatic "BurstDesk$Cubes" "ONES" "[J" ∈ lw_tbl := List.mem_append_right _ (List.mem_of_getElem? (i := 255) (by decide +kernel))
theorem ls_cmp : Cond.laysStatic "java/lang/String" "COMPACT_STRINGS" "Z" ∈ lw_tbl := List.mem_append_right _ (List.mem_of_getElem? (i := 491) (by decide +kernel))
theorem ls_sio : Cond.laysStatic "jdk/internal/util/Preconditions" "SIOOBE_FORMATTER" "Ljava/util/function/BiFunction;" ∈ lw_tbl := List.mem_append_right _ (List.mem_of_getElem? (i := 534) (by decide +kernel))
theorem li_str : Cond.initialized "java/lang/String" ∈ lw_tbl := by decide +kernel
theorem li_pre : Cond.initialized "jdk/internal/util/Preconditions" ∈ lw_tbl := by decide +kernel
theorem n_ar : Cond.arrayOf (.static "BurstDesk$Cubes" "ONES" "[J") .long ∈ nF := by decide +kernel
theorem n_le : Cond.eq (.length (.static "BurstDesk$Cubes" "ONES" "[J")) (.int 6) ∈ nF := by decide +kernel
theorem n_cmp : Cond.eq (.static "java/lang/String" "COMPACT_STRINGS" "Z") (.int 1) ∈ nF := by decide +kernel
theorem n_sio : Cond.isRef (.static "jdk/internal/util/Preconditions" "SIOOBE_FORMATTER" "Ljava/util/function/BiFunction;") ∈ nF := by decide +kernel
theorem s_len : ∀ i, i < 9 → sL.getD i 0 = x_sl' i := by decide
theorem s_byt : ∀ i, i < 9 → sB.getD i [] = x_btx.getD i [] := by decide
theorem s_L31 : ∀ i, i < 10 → sL.getD i 0 < 2 ^ 31 := by decide
theorem env_X {s : State} {args : Array Value} (l : Launch) (b : Nat) (hts : ∀ w ∈ lw_tbl, w.before args s = true) (hgv : (Jvm.Cond.and given_1 narrow_1).before args s = true) : ∃ X : xG, X.1 = l ∧ X.2.2.2.1 = s ∧ X.2.2.2.2 1300 = b ∧ x_Env X s ∧ x_AA X ∧ x_OV X ∧ x_St X ∧ x_S2 X := by
  have hs : ∀ w ∈ nF, w.before args s = true := flat_of_before _ hgv
  obtain ⟨D, K, hDK⟩ := env_K hts
  have hA : ∀ a : Nat, a < s.heap.size → ¬ (s.heap.size ≤ a) := fun a h z => absurd (Nat.lt_of_lt_of_le h z) (Nat.lt_irrefl _)
  obtain ⟨t, ht, hTt⟩ := va_Tof (tm := .static "BurstDesk$Cubes" "ONES" "[J") (ty := .long) (N := 6) (f := fun j => .long (onesL.getD j 0)) (A := fun q => s.heap.size ≤ q) (by decide) (hs _ n_ar) (va_eqt (hs _ n_le)) (fun j hj => va_eqtl (hs _ (o_el j hj))) hA
  obtain ⟨adK, adV, hS, hev⟩ := vk_Sof (N := 10) (tm := sTm) (len := sL) (byt := sB) (A := fun q => s.heap.size ≤ q) s_L31 (fun i hi => hs _ (s_ex i hi)) (fun i hi => hs _ (s_co i hi)) (fun i hi => hs _ (s_ar i hi)) (fun i hi => hs _ (s_le i hi)) (fun i hi j hj => hs _ (s_el i hi j hj)) (fun i j hi hj hn => (s_ne i hi j hj hn).elim (fun z => Or.inl (hs _ z)) (fun z => Or.inr (hs _ z))) hA
  obtain ⟨q, hq⟩ : ∃ q : Nat, (Term.static "jdk/internal/util/Preconditions" "SIOOBE_FORMATTER" "Ljava/util/function/BiFunction;").eval args s none [] s = some .null ∨ (Term.static "jdk/internal/util/Preconditions" "SIOOBE_FORMATTER" "Ljava/util/function/BiFunction;").eval args s none [] s = some (.ref q) := by
    rcases isRef_or (hs _ n_sio) with z | ⟨a, z⟩
    · exact ⟨0, Or.inl z⟩
    · exact ⟨a, Or.inr z⟩
  obtain ⟨ad, e0, eK, eV, eQ, eB⟩ : ∃ ad : Nat → Nat, ad 1000 = t ∧ (∀ i, i < 10 → ad (1001 + i) = adK i) ∧ (∀ i, i < 10 → ad (1101 + i) = adV i) ∧ ad 1200 = q ∧ ad 1300 = b := by
    refine ⟨fun n => if n = 1000 then t else if n < 1100 then adK (n - 1001) else if n < 1200 then adV (n - 1101) else if n = 1300 then b else q, rfl, fun i hi => ?_, fun i hi => ?_, rfl, rfl⟩
    · have h1 : ¬ (1001 + i = 1000) := by omega
      have h2 : 1001 + i < 1100 := by omega
      show (if 1001 + i = 1000 then t else if 1001 + i < 1100 then adK (1001 + i - 1001) else _) = _
      rw [if_neg h1, if_pos h2, Nat.add_sub_cancel_left]
    · have h1 : ¬ (1101 + i = 1000) := by omega
      have h2 : ¬ (1101 + i < 1100) := by omega
      have h3 : 1101 + i < 1200 := by omega
      show (if 1101 + i = 1000 then t else if 1101 + i < 1100 then adK (1101 + i - 1001) else if 1101 + i < 1200 then adV (1101 + i - 1101) else _) = _
      rw [if_neg h1, if_neg h2, if_pos h3, Nat.add_sub_cancel_left]
  obtain ⟨hK, hAA, hOV⟩ := hDK l ad
  refine ⟨(l, D, K, s, ad), rfl, rfl, eB, ⟨hK, fun a i y h hw => va_Nw.of rfl (hts _ hw), Vm.Alike.refl _, Nat.le_refl _, fun _ _ => rfl, fun a i tx hw => ?_⟩, hAA, hOV, ⟨?_, ?_⟩, ⟨fun i hi => ?_, ?_, ?_⟩⟩
  · have hm : (a, i, tx) ∈ lw_tbl.filterMap sW := List.mem_filterMap.mpr ⟨_, hw, rfl⟩
    obtain ⟨e, he, hd⟩ := List.any_eq_true.mp (List.all_eq_true.mp s_all _ hm)
    obtain ⟨d1, d2, d3⟩ := of_decide_eq_true hd
    obtain ⟨e1, e2, e3, e4⟩ := e
    obtain ⟨g1, g2⟩ := of_decide_eq_true (List.all_eq_true.mp s_sid _ he)
    have hl := List.all_eq_true.mp s_lnk _ he
    dsimp only at d1 d2 d3 g1 g2 hl
    subst d1
    subst d2
    subst d3
    refine vk_R.of (hts _ hw) ?_
    show _ = some (Value.ref (ad (x_sid e3)))
    rw [g1, eK e4 g2]
    rcases Bool.or_eq_true_iff.mp hl with z | z
    · rw [of_decide_eq_true z]
      exact hev e4 g2
    · exact eq_ref (hs _ (of_decide_eq_true z)) (hev e4 g2)
  · show va_Z _ _ _ (.ref (ad 1000)) _ _ _
    rw [e0]
    exact va_Zref (hts _ ls_ones) (hts _ (List.mem_filter.mp ii_X2).1) ht hA
  · show va_T _ (ad 1000) _ _ _ _ _
    rw [e0]
    exact hTt
  · obtain ⟨v1, v2, v3, v4⟩ := hS.1 i (by omega)
    show va_O _ (ad (1001 + i)) _ _ _ ∧ va_OF _ _ _ _ (ad (1001 + i)) _ _ _ ∧ va_OF _ _ _ (.ref (ad (1101 + i))) (ad (1001 + i)) _ _ _ ∧ va_T _ (ad (1101 + i)) _ _ _ _ _
    rw [eK i (by omega), eV i (by omega)]
    rw [s_len i hi, s_byt i hi] at v4
    exact ⟨v1, v2, v3, v4⟩
  · exact va_Zof (hts _ ls_cmp) (hts _ li_str) (va_eqi (hs _ n_cmp)) hA
  · rcases hq with z | z
    · exact Or.inl (va_Zof (hts _ ls_sio) (hts _ li_pre) z hA)
    · refine Or.inr ?_
      show va_Z _ _ _ (.ref (ad 1200)) _ _ _
      rw [eQ]
      exact va_Zof (hts _ ls_sio) (hts _ li_pre) z hA

/-! the world at the law's entry: links, ONES, string constants -/
def nF : List Cond := flatC (Jvm.Cond.and given_1 narrow_1)
def sT : List (String × Nat) := [("BurstDesk$Reader", 44), ("BurstDesk$Reader", 53), ("BurstDesk$Reader", 58), ("BurstDesk$Reader", 63), ("BurstDesk$Reader", 122), ("BurstDesk$Reader", 134), ("BurstDesk$Reader", 162), ("BurstDesk$Reader", 180), ("BurstDesk$Reader", 94), ("BurstDesk", 323)]
def sM : List Int32 := [110, 111, 32, 115, 117, 99, 104, 32, 115, 116, 97, 116, 101, 32, 119, 105, 116, 104, 111, 117, 116, 32, 97, 110, 32, 97, 114, 99, 32, 102, 114, 111, 109, 32, 105, 116]
def sB : List (List Int32) := x_btx ++ [sM]
def sL : List Nat := sB.map List.length
def sTm (i : Nat) : Term := .string (sT.getD i ("", 0)).1 (sT.getD i ("", 0)).2
def sW (w : Cond) : Option (String × Nat × String) := match w with
  | .stringRef a i t => some (a, i, t)
  | _ => none
def sAll : List (String × Nat × String × Nat) := [("BurstDesk$Reader", 44, "state", 0), ("BurstDesk$Reader", 53, "begin", 1), ("BurstDesk$Reader", 58, "arc", 2), ("BurstDesk$Reader", 63, "gate", 3), ("BurstDesk$Reader", 122, "abcd", 4), ("BurstDesk$Reader", 134, "pqr", 5), ("BurstDesk$Reader", 162, "pqrst", 6), ("BurstDesk$Reader", 180, "abcdst", 7), ("BurstDesk$Reader", 94, ";/+-'", 8), ("BurstDesk", 323, "no such state without an arc from it", 9), ("BurstDesk$Sheet", 210, "abcdst", 7), ("BurstDeskModel", 186, "state", 0), ("BurstDeskModel", 195, "begin", 1), ("BurstDeskModel", 200, "arc", 2), ("BurstDeskModel", 205, "gate", 3)]
theorem s_all : (lw_tbl.filterMap sW).all (fun e => sAll.any (fun q => decide (q.1 = e.1 ∧ q.2.1 = e.2.1 ∧ q.2.2.1 = e.2.2))) = true := by decide +kernel
theorem s_sid : sAll.all (fun q => decide (x_sid q.2.2.1 = 1001 + q.2.2.2 ∧ q.2.2.2 < 10)) = true := by decide +kernel
theorem s_lnk : sAll.all (fun q => decide (Term.string q.1 q.2.1 = sTm q.2.2.2) || decide (Cond.eq (sTm q.2.2.2) (.string q.1 q.2.1) ∈ nF)) = true := by decide +kernel
theorem s_ex : ∀ i, i < 10 → Cond.exactly (sTm i) "java/lang/String" ∈ nF := by decide +kernel
theorem s_co : ∀ i, i < 10 → Cond.eq (.field (sTm i) "java/lang/String" "coder" "B") (.int 0) ∈ nF := by decide +kernel
theorem s_ar : ∀ i, i < 10 → Cond.arrayOf (.field (sTm i) "java/lang/String" "value" "[B") .byte ∈ nF := by decide +kernel
theorem s_le : ∀ i, i < 10 → Cond.eq (.length (.field (sTm i) "java/lang/String" "value" "[B")) (.int (Int32.ofNat (sL.getD i 0))) ∈ nF := by decide +kernel
theorem s_el : ∀ i, i < 10 → ∀ j, j < sL.getD i 0 → Cond.eq (.elem (.field (sTm i) "java/lang/String" "value" "[B") (.int (Int32.ofNat j))) (.int ((sB.getD i []).getD j 0)) ∈ nF := by decide +kernel
theorem s_ne : ∀ i, i < 10 → ∀ j, j < 10 → i ≠ j → (Cond.not (Cond.eq (sTm i) (sTm j)) ∈ nF ∨ Cond.not (Cond.eq (sTm j) (sTm i)) ∈ nF) := by decide +kernel
theorem o_el : ∀ j, j < 6 → Cond.eq (.elem (.static "BurstDesk$Cubes" "ONES" "[J") (.int (Int32.ofNat j))) (.long (onesL.getD j 0)) ∈ nF := by decide +kernel
theorem eq_ref {args : Array Value} {s : State} {t u : Term} {a : Nat} (h : (Cond.eq t u).before args s = true) (ht : t.eval args s none [] s = some (.ref a)) : u.eval args s none [] s = some (.ref a) := va_eqR h ht
theorem isRef_or {args : Array Value} {s : State} {t : Term} (h : (Cond.isRef t).before args s = true) : t.eval args s none [] s = some .null ∨ ∃ a, t.eval args s none [] s = some (.ref a) := by
  rcases zq : t.eval args s none [] s with _ | zw
  · exact absurd h (by simp [Cond.before, Cond.holds, Cond.value, zq])
  · cases zw <;> first | exact Or.inl rfl | exact Or.inr ⟨_, rfl⟩ | exact absurd h (by simp [Cond.before, Cond.holds, Cond.value, zq, Value.isRef])

/-! Sheet: gatherRequired, gatherFalls -/
def addL (L : List Int32) (x : Int32) : List Int32 := if x ∈ L then L else L ++ [x]
def addAll (L xs : List Int32) : List Int32 := xs.foldl addL L
theorem addL_len (L : List Int32) (x : Int32) : (addL L x).length ≤ L.length + 1 := by
  unfold addL
  split
  · omega
  · simp
theorem addAll_len : ∀ (xs L : List Int32), (addAll L xs).length ≤ L.length + xs.length
  | [], L => Nat.le_refl _
  | x :: xs, L => by
    have h1 := addAll_len xs (addL L x)
    have h2 := addL_len L x
    show (addAll (addL L x) xs).length ≤ _
    rw [List.length_cons]
    omega
def shR (MI : Nat → Nat → Int32) (a : Nat) (r : Nat → Int32) (L : List Int32) : Nat → Nat → Int32 := u2 (sr MI (a + 1) (layL r L)) a 6 (nI L.length)
theorem shR_r {MI : Nat → Nat → Int32} {a : Nat} {r : Nat → Int32} {L : List Int32} : shR MI a r L (a + 1) = layL r L := by
  unfold shR
  rw [u2_row _ _ (by omega), sr_eq]
theorem shR_c {MI : Nat → Nat → Int32} {a : Nat} {r : Nat → Int32} {L : List Int32} : shR MI a r L a 6 = nI L.length := u2_eq _ _ _ _
theorem shR_b {MI : Nat → Nat → Int32} {a b : Nat} {r : Nat → Int32} {L : List Int32} (h1 : b ≠ a) (h2 : b ≠ a + 1) : shR MI a r L b = MI b := by
  unfold shR
  rw [u2_row _ _ h1, sr_ne _ _ h2]
theorem layL_lt {r : Nat → Int32} {L : List Int32} {i : Nat} (h : i < L.length) : layL r L i = L.getD i 0 := if_pos h
theorem mem_getD {L : List Int32} {x : Int32} : x ∈ L ↔ ∃ i, i < L.length ∧ L.getD i 0 = x := by
  rw [List.mem_iff_getElem]
  constructor
  · rintro ⟨i, h, e⟩; exact ⟨i, h, by simp [List.getD, h, e]⟩
  · rintro ⟨i, h, e⟩; exact ⟨i, h, by simpa [List.getD, h] using e⟩
theorem frMI_congr {W MI : Nat → Nat → Int32} (h : ∀ b, b < 56 → W b = MI b) (x f : Int32) : frMI W x f = frMI MI x f := by
  have hp : ∀ y, partV W 1 x y = partV MI 1 x y := fun y => by
    unfold partV
    split
    · rename_i z
      have hx := inR_t.mp z.1
      have := clampLt (N := 8) (by decide) hx.1 hx.2
      rw [h _ (by omega)]
    · rfl
  unfold frMI burstV
  rw [h 51 (by decide), h 52 (by decide), h 53 (by decide), h 54 (by decide), h 55 (by decide), hp, hp]
def reqA (MI : Nat → Nat → Int32) (f : Int32) : Nat → List Int32
  | 0 => []
  | k + 1 => addAll (reqA MI f k) (frMI MI (nI k) f)
theorem reqA_len (MI : Nat → Nat → Int32) (f : Int32) : ∀ k, (reqA MI f k).length ≤ 4 * k
  | 0 => Nat.le_refl _
  | k + 1 => by
    have h1 := reqA_len MI f k
    have h2 := addAll_len (frMI MI (nI k) f) (reqA MI f k)
    have h3 : (frMI MI (nI k) f).length ≤ 4 := frq_len _ _ _ _ _ _ _
    rw [reqA]
    omega
/-- REQUIRED CUBES of a FUNCTION, A arcs -/
def reqL (MI : Nat → Nat → Int32) (f : Int32) (A : Nat) : List Int32 := if (valV (MI 45) (MI 2) (MI 1 3) >>> (f &&& 31)) &&& 1 = 0 then reqA MI f A else addL (reqA MI f A) (numC (pointV (MI 44) (MI 2) (MI 1 3)) 0 6)
def fallR (F : Nat → Bool) (B P : Nat → Int64) (FB FP : Nat → Int64) : Nat → Nat × (Nat → Int64) × (Nat → Int64)
  | 0 => (0, FB, FP)
  | k + 1 => if F k = true then ((fallR F B P FB FP k).1 + 1, up (fallR F B P FB FP k).2.1 (fallR F B P FB FP k).1 (B k), up (fallR F B P FB FP k).2.2 (fallR F B P FB FP k).1 (P k)) else fallR F B P FB FP k
theorem fallR_le (F : Nat → Bool) (B P FB FP : Nat → Int64) : ∀ k, (fallR F B P FB FP k).1 ≤ k
  | 0 => Nat.le_refl _
  | k + 1 => by
    have := fallR_le F B P FB FP k
    rw [fallR]
    split
    · show (fallR F B P FB FP k).1 + 1 ≤ k + 1
      omega
    · omega
section sheet3
variable {X : xG} {n : Nat} {MI : Nat → Nat → Int32} {ML : Nat → Nat → Int64} {MR : Nat → Nat → Option Nat} {a : Nat}
theorem t_addRequired (hA : x_Sh MR a) {r : Nat → Int32} {L : List Int32} {x : Int32} (hL : L.length < 33) : Cf X yX7_addRequired cX7_addRequired 3 none 2 [.ref a, .int x] n SH (shR MI a r L) ML MR none (shR MI a r (addL L x)) ML MR := by
  obtain ⟨s0, m1, m2, m3, m5, m7, m8, m10, m12, m17, s1, s2, s3, s4, s5, s6, hal⟩ := hA
  refine Ct_of (by decide) (Nat.le_of_ble_eq_true rfl) (fun G hG => ?_)
  have hpk : ∀ i, i < L.length → pickV (shR MI a r L (a + 1)) 33 (nI i) = L.getD i 0 := fun i hi => by rw [shR_r, pickV_nI _ (show i < 33 by omega) (by decide), layL_lt hi]
  have hput : u2 (placeM (shR MI a r L) (a + 1) 33 (nI L.length) x) a 6 (placeM (shR MI a r L) (a + 1) 33 (nI L.length) x a 6 + 1) = shR MI a r (L ++ [x]) := by
    unfold placeM
    rw [if_pos (inR_t.mp (inR_nI hL (by decide))), nI_clamp (by omega), u2_row _ _ (show a ≠ a + 1 by omega), shR_c, nI_1]
    unfold shR
    rw [← layL_app, List.length_append]
    funext b j
    simp only [u2, sr, up, List.length_cons, List.length_nil]
    grind
  have loop : ∀ i, i ≤ L.length → (∀ k, k < i → ¬ L.getD k 0 = x) → RW X G RX7 cX7_addRequired 3 (x_rm 2 0 0) n SH (shR MI a r L) ML MR 0 0 2 [(2, .int (nI i)), (0, .ref a), (1, .int x)] [] := by
    refine bwd (fun i hi ih hk => ?_)
    refine r_iload_n 0 rfl dX7_addRequired_2 ?_
    refine r_aload_n 1 rfl dX7_addRequired_3 ?_
    refine r_geti dX7_addRequired_4 fl_X7_58 s0 ?_
    refine r_icmpge (tgt := 29) dX7_addRequired_7 (by decide) (fun zh7 => ?_) (fun zh7 => ?_)
    · rw [shR_c] at zh7
      have hiL : i = L.length := by have := geL (k := L.length) (by omega) (by omega) zh7; omega
      refine r_aload_n 1 rfl dX7_addRequired_29 ?_
      refine r_getr dX7_addRequired_30 fl_X7_11 s0 m5 ?_
      refine r_aload_n 1 rfl dX7_addRequired_33 ?_
      refine r_geti dX7_addRequired_34 fl_X7_58 s0 ?_
      refine r_iload_n 2 rfl dX7_addRequired_37 ?_
      refine r_Sn [.ref _, .int _, .int _] dX7_addRequired_38 lk_X7_155 mb_X10_place sc_X10_place rfl (c_X10_place (N := 33) s1 (by decide)) rfl (Nat.le_of_ble_eq_true rfl) (rfl) ?_
      refine r_aload_n 1 rfl dX7_addRequired_41 ?_
      refine r_dup rfl dX7_addRequired_42 ?_
      refine r_geti dX7_addRequired_43 fl_X7_58 s0 ?_
      refine r_iconst (v := 1) rfl dX7_addRequired_46 ?_
      refine r_iadd dX7_addRequired_47 ?_
      refine r_puti dX7_addRequired_48 fl_X7_58 s0 rfl rfl ?_
      exact r_vret hG dX7_addRequired_51 (⟨rfl, by rw [show addL L x = L ++ [x] from if_neg (fun q => by obtain ⟨k, h1, h2⟩ := mem_getD.mp q; exact hk k (by omega) h2), shR_c]; exact hput, rfl, rfl⟩)
    · rw [shR_c] at zh7
      have hlt : i < L.length := ltL (by omega) zh7
      refine r_aload_n 1 rfl dX7_addRequired_10 ?_
      refine r_getr dX7_addRequired_11 fl_X7_11 s0 m5 ?_
      refine r_iload_n 0 rfl dX7_addRequired_14 ?_
      refine r_Sf [.ref _, .int _] dX7_addRequired_15 lk_X7_68 mb_X10_pick sc_X10_pick rfl (c_X10_pick (N := 33) s1 (by decide)) rfl (Nat.le_of_ble_eq_true rfl) (rfl) ?_
      refine r_iload_n 2 rfl dX7_addRequired_18 ?_
      refine r_icmpne (tgt := 23) dX7_addRequired_19 (by decide) (fun zh19 => ?_) (fun zh19 => ?_)
      · rw [hpk i hlt] at zh19
        refine r_iinc (v := (nI (i + 1))) (ls2 := [(2, .int (nI (i + 1))), (0, .ref a), (1, .int x)]) 0 dX7_addRequired_23 rfl (x_inc i) (by decide) rfl ?_
        refine r_goto (tgt := 2) dX7_addRequired_26 (by decide) ?_
        refine ih hlt (fun k hk2 => ?_)
        rcases Nat.lt_or_ge k i with q | q
        · exact hk k q
        · obtain rfl : k = i := by omega
          exact zh19
      · rw [hpk i hlt] at zh19
        exact r_vret hG dX7_addRequired_22 (⟨rfl, by rw [show addL L x = L from if_pos (mem_getD.mpr ⟨i, hlt, zh19⟩)], rfl, rfl⟩)
  refine r_iconst (v := 0) rfl dX7_addRequired_0 ?_
  refine r_istore_n (ls2 := [(2, .int 0), (0, .ref a), (1, .int x)]) dX7_addRequired_1 (by decide) rfl ?_
  exact loop 0 (by omega) (fun k hk => absurd hk (Nat.not_lt_zero k))
end sheet3

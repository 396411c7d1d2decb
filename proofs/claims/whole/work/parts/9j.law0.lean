/-! the law: its script, its entry, the two objects made -/
section RWlaw
variable {X : xG} {G : xM} {own : String} {cc : ByteArray} {nL : Nat} {R : Room} {n : Nat} {sh : List (Nat × Nat)} {MI : Nat → Nat → Int32} {ML : Nat → Nat → Int64} {MR : Nat → Nat → Option Nat} {cells slots pc : Nat} {ls : List (Nat × Value)} {st : List Value}
/-- the script: L ints xs at the address of 1300 -/
def x_Sc (X : xG) (G : xM) (L : Nat) (xs : Nat → Int32) : Prop := va_X (X.2.2.2.2 1300) L xs G.2.2.1 G.2.2.1.heap ∧ X.2.2.2.2 1300 < X.2.2.2.1.heap.size
theorem r_scr {L : Nat} {xs : Nat → Int32} {i : Int32} (hX : x_Sc X G L xs) (hd : decode cc pc = .ok (.iaload, 1)) (hi : vp_in i L) (k : RW X G own cc nL R n sh MI ML MR cells slots (pc + 1) ls (.int (xs i.toNatClampNeg) :: st)) : RW X G own cc nL R n sh MI ML MR cells slots pc ls (.int i :: .ref 1300 :: st) := by
  obtain ⟨p, e, s, m, args, below, meth, c, rt, mn, Q⟩ := G
  intro O H locs la hP hL hS hl hn
  have hb : X.2.2.2.2 1300 < s.heap.size := Nat.lt_of_lt_of_le hX.2 O.2.2.2.2.2.1.2.2.2.1
  exact va_sld O.1 O.2.1 hX.1 hb (fun z => absurd (Nat.lt_of_lt_of_le hX.2 z) (Nat.lt_irrefl _)) hS hi hd (k O H locs la hP hL hS hl hn)
theorem r_scl {L : Nat} {xs : Nat → Int32} (hX : x_Sc X G L xs) (hd : decode cc pc = .ok (.arraylength, 1)) (k : RW X G own cc nL R n sh MI ML MR cells slots (pc + 1) ls (.int (nI L) :: st)) : RW X G own cc nL R n sh MI ML MR cells slots pc ls (.ref 1300 :: st) := by
  obtain ⟨p, e, s, m, args, below, meth, c, rt, mn, Q⟩ := G
  intro O H locs la hP hL hS hl hn
  have hb : X.2.2.2.2 1300 < s.heap.size := Nat.lt_of_lt_of_le hX.2 O.2.2.2.2.2.1.2.2.2.1
  exact va_slen O.1 O.2.1 hX.1 hb (fun z => absurd (Nat.lt_of_lt_of_le hX.2 z) (Nat.lt_irrefl _)) hS hd (k O H locs la hP hL hS hl hn)
/-- how many cells there are is forgotten -/
theorem r_n0 (k : RW X G own cc nL R 0 sh MI ML MR cells slots pc ls st) : RW X G own cc nL R n sh MI ML MR cells slots pc ls st := by
  obtain ⟨p, e, s, m, args, below, meth, c, rt, mn, Q⟩ := G
  intro O H locs la hP hL hS hl hn
  exact k O H locs la hP hL hS hl (fun q => absurd rfl q)
end RWlaw
theorem mr0_hi {b j : Nat} (hb : 154 ≤ b) : mr0 b j = none := by
  have hz : Zr 154 (fun _ _ => 0) (fun _ _ => 0) mr0 := by
    unfold mr0
    repeat (first | exact (fun _ _ _ => ⟨rfl, rfl, rfl⟩) | refine Zr_r ?_ (Nat.le_of_ble_eq_true rfl) | refine Zr_s ?_ (Nat.le_of_ble_eq_true rfl))
  exact (hz b hb j).2.2
theorem SH_155 : SH.take 155 = SH := List.take_of_length_le (Nat.le_of_eq SH_len)
set_option maxRecDepth 100000 in
theorem law_made {X : xG} {G : xM} (hSt : x_St X) (hOV : x_OV X) (k : RW X G RL cL_law 7 room_1 0 SH mi0 ml0 mr0 155 16361 23 [(4, .int 0), (3, .ref 154), (2, .ref 124), (1, .ref 0), (0, .ref 1300)] []) : RW X G RL cL_law 7 room_1 1 (SH.take 0) (fun _ _ => 0) (fun _ _ => 0) (fun _ _ => none) 0 0 0 [(0, .ref 1300)] [] := by
  have hZ : Zr 0 (fun _ _ => 0) (fun _ _ => 0) (fun _ _ => none) := fun _ _ _ => ⟨rfl, rfl, rfl⟩
  refine r_new (k0 := 0) dL_law_0 rfl cl_10 (by decide) nl_L_8 ni_X10 ii_X10 dv_10 hZ (Nat.le_of_ble_eq_true rfl) (Nat.le_of_ble_eq_true rfl) ?_
  refine r_dup rfl dL_law_3 ?_
  refine r_callI (rt' := none) (a := 0) (as := []) dL_law_4 lk_L_15 mb_X10_init in_X10_init rfl (ci_X10_0 hSt hOV (hZ.w (Nat.le_of_ble_eq_true rfl))) rfl rfl (Nat.le_of_ble_eq_true rfl) rfl (fun zr zA zB zC zq => ?_)
  obtain ⟨rfl, rfl, rfl, rfl⟩ := zq
  refine r_astore_n (ls2 := [(1, .ref 0), (0, .ref 1300)]) dL_law_7 (by decide) rfl ?_
  refine r_new (k0 := 124) dL_law_8 rfl cl_11 (by decide) nl_L_16 ni_X11 ii_X11 dv_11 (by repeat (first | exact hZ.w (Nat.le_of_ble_eq_true rfl) | refine Zr_r ?_ (Nat.le_of_ble_eq_true rfl) | refine Zr_s ?_ (Nat.le_of_ble_eq_true rfl) | refine Zr_i ?_ (Nat.le_of_ble_eq_true rfl) | refine Zr_kt ?_ (Nat.le_of_ble_eq_true rfl))) (Nat.le_of_ble_eq_true rfl) (Nat.le_of_ble_eq_true rfl) ?_
  refine r_dup rfl dL_law_11 ?_
  refine r_callI (rt' := none) (a := 124) (as := []) dL_law_12 lk_L_18 mb_X11_init in_X11_init rfl (ci_X11_124 hOV (by repeat (first | exact hZ.w (Nat.le_of_ble_eq_true rfl) | refine Zr_r ?_ (Nat.le_of_ble_eq_true rfl) | refine Zr_s ?_ (Nat.le_of_ble_eq_true rfl) | refine Zr_i ?_ (Nat.le_of_ble_eq_true rfl) | refine Zr_kt ?_ (Nat.le_of_ble_eq_true rfl)))) rfl rfl (Nat.le_of_ble_eq_true rfl) rfl (fun zr zA zB zC zq => ?_)
  obtain ⟨rfl, rfl, rfl, rfl⟩ := zq
  refine r_astore_n (ls2 := [(2, .ref 124), (1, .ref 0), (0, .ref 1300)]) dL_law_15 (by decide) rfl ?_
  refine r_iconst (v := 1) rfl dL_law_16 ?_
  refine r_newa (k0 := 154) (kd := 14) (N := 1) dL_law_17 rfl (by decide) na_long rfl ac_l (by decide) (by decide) (Nat.le_of_ble_eq_true rfl) (fun b hb j => ⟨start_mi (by omega) (by omega) (by omega) (by omega), start_ml (by omega) (by omega), ?_⟩) (Nat.le_of_ble_eq_true rfl) (Nat.le_of_ble_eq_true rfl) ?_
  · exact mr0_hi hb
  refine r_astore_n (ls2 := [(3, .ref 154), (2, .ref 124), (1, .ref 0), (0, .ref 1300)]) dL_law_19 (by decide) rfl ?_
  refine r_iconst (v := 0) rfl dL_law_20 ?_
  refine r_istore (ls2 := [(4, .int 0), (3, .ref 154), (2, .ref 124), (1, .ref 0), (0, .ref 1300)]) dL_law_21 (by decide) rfl ?_
  refine r_n0 ?_
  have e := SH_155
  rw [show (154 + 1 : Nat) = 155 from rfl, e]
  exact k

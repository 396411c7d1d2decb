/-! the JDK's Math.max, Long.bitCount -/
def maxI (x y : Int32) : Int32 := if x < y then y else x
def ushL (x : Int64) (y : Int32) : Int64 := (x.toUInt64 >>> (y.toInt64.toUInt64 &&& Int64.toUInt64 63)).toInt64
def popF (x0 : Int64) : Int32 :=
  let x1 := x0 - (ushL x0 1 &&& 6148914691236517205)
  let x2 := (x1 &&& 3689348814741910323) + (ushL x1 2 &&& 3689348814741910323)
  let x3 := (x2 + ushL x2 4) &&& 1085102592571150095
  let x4 := x3 + ushL x3 8
  let x5 := x4 + ushL x4 16
  let x6 := x5 + ushL x5 32
  x6.toInt32 &&& 127
section jdk
variable {X : xG} {n : Nat} {MI : Nat → Nat → Int32} {ML : Nat → Nat → Int64} {MR : Nat → Nat → Option Nat}
set_option maxRecDepth 100000 in
theorem c_J13_bitCount_95d88 {x : Int64} : Cf X yJ13_bitCount_95d88 cJ13_bitCount_95d88 2 (some .int) 1 [.long x] n SH MI ML MR (some (.int (popF x))) MI ML MR := by
  refine Ct_of (by decide) (Nat.le_of_ble_eq_true rfl) (fun G hG => ?_)
  refine r_lload_n 0 rfl dJ13_bitCount_95d88_0 ?_
  refine r_lload_n 0 rfl dJ13_bitCount_95d88_1 ?_
  refine r_iconst (v := 1) rfl dJ13_bitCount_95d88_2 ?_
  refine r_lushr dJ13_bitCount_95d88_3 ?_
  refine r_ldc2 kl_J13_314 dJ13_bitCount_95d88_4 ?_
  refine r_land dJ13_bitCount_95d88_7 ?_
  refine r_lsub dJ13_bitCount_95d88_8 ?_
  refine r_nml (fun zv9 ze9 => ?_)
  refine r_lstore_n (ls2 := [(0, .long zv9)]) dJ13_bitCount_95d88_9 (by decide) rfl ?_
  refine r_lload_n 0 rfl dJ13_bitCount_95d88_10 ?_
  refine r_ldc2 kl_J13_316 dJ13_bitCount_95d88_11 ?_
  refine r_land dJ13_bitCount_95d88_14 ?_
  refine r_lload_n 0 rfl dJ13_bitCount_95d88_15 ?_
  refine r_iconst (v := 2) rfl dJ13_bitCount_95d88_16 ?_
  refine r_lushr dJ13_bitCount_95d88_17 ?_
  refine r_ldc2 kl_J13_316 dJ13_bitCount_95d88_18 ?_
  refine r_land dJ13_bitCount_95d88_21 ?_
  refine r_ladd dJ13_bitCount_95d88_22 ?_
  refine r_nml (fun zv23 ze23 => ?_)
  refine r_lstore_n (ls2 := [(0, .long zv23)]) dJ13_bitCount_95d88_23 (by decide) rfl ?_
  refine r_lload_n 0 rfl dJ13_bitCount_95d88_24 ?_
  refine r_lload_n 0 rfl dJ13_bitCount_95d88_25 ?_
  refine r_iconst (v := 4) rfl dJ13_bitCount_95d88_26 ?_
  refine r_lushr dJ13_bitCount_95d88_27 ?_
  refine r_ladd dJ13_bitCount_95d88_28 ?_
  refine r_ldc2 kl_J13_318 dJ13_bitCount_95d88_29 ?_
  refine r_land dJ13_bitCount_95d88_32 ?_
  refine r_nml (fun zv33 ze33 => ?_)
  refine r_lstore_n (ls2 := [(0, .long zv33)]) dJ13_bitCount_95d88_33 (by decide) rfl ?_
  refine r_lload_n 0 rfl dJ13_bitCount_95d88_34 ?_
  refine r_lload_n 0 rfl dJ13_bitCount_95d88_35 ?_
  refine r_bipush (v := 8) rfl dJ13_bitCount_95d88_36 ?_
  refine r_lushr dJ13_bitCount_95d88_38 ?_
  refine r_ladd dJ13_bitCount_95d88_39 ?_
  refine r_nml (fun zv40 ze40 => ?_)
  refine r_lstore_n (ls2 := [(0, .long zv40)]) dJ13_bitCount_95d88_40 (by decide) rfl ?_
  refine r_lload_n 0 rfl dJ13_bitCount_95d88_41 ?_
  refine r_lload_n 0 rfl dJ13_bitCount_95d88_42 ?_
  refine r_bipush (v := 16) rfl dJ13_bitCount_95d88_43 ?_
  refine r_lushr dJ13_bitCount_95d88_45 ?_
  refine r_ladd dJ13_bitCount_95d88_46 ?_
  refine r_nml (fun zv47 ze47 => ?_)
  refine r_lstore_n (ls2 := [(0, .long zv47)]) dJ13_bitCount_95d88_47 (by decide) rfl ?_
  refine r_lload_n 0 rfl dJ13_bitCount_95d88_48 ?_
  refine r_lload_n 0 rfl dJ13_bitCount_95d88_49 ?_
  refine r_bipush (v := 32) rfl dJ13_bitCount_95d88_50 ?_
  refine r_lushr dJ13_bitCount_95d88_52 ?_
  refine r_ladd dJ13_bitCount_95d88_53 ?_
  refine r_nml (fun zv54 ze54 => ?_)
  refine r_lstore_n (ls2 := [(0, .long zv54)]) dJ13_bitCount_95d88_54 (by decide) rfl ?_
  refine r_lload_n 0 rfl dJ13_bitCount_95d88_55 ?_
  refine r_l2i dJ13_bitCount_95d88_56 ?_
  refine r_bipush (v := 127) rfl dJ13_bitCount_95d88_57 ?_
  refine r_iand dJ13_bitCount_95d88_59 ?_
  exact r_iret hG dJ13_bitCount_95d88_60 (by subst ze9; subst ze23; subst ze33; subst ze40; subst ze47; subst ze54; exact ⟨rfl, rfl, rfl, rfl⟩)
end jdk

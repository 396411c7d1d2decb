/-! Study.findRequired; Sheet at a (89 + 7 f): requiredCubes a + 1, fallBursts a + 2, fallPoints a + 3, primeCubes a + 4, chosenPrimes a + 5, signs a + 6 -/
def oneB (v f : Int32) : Bool := decide (¬ v &&& ((1 : Int32) <<< (f &&& 31)) = 0)
/-- the cubes of an ARC by which a FUNCTION falls: one for each INPUT of it -/
def frF (fp fr : Int32) : Nat → List Int32
  | 0 => []
  | k + 1 => if fr &&& ((1 : Int32) <<< (nI k &&& 31)) = 0 then frF fp fr k else frF fp fr k ++ [numC fp (fr &&& (((1 : Int32) <<< (nI k &&& 31)) ^^^ -1)) 6]
/-- REQUIRED CUBES by one ARC: vb, vt its values before and then, fp its first POINT, fr its INPUTS, bc, tc its cubes -/
def frq (vb vt fp fr bc tc f : Int32) : List Int32 := (if oneB vb f = true ∧ oneB vt f = false then frF fp fr 4 else []) ++ ((if oneB vb f = true ∧ oneB vt f = true then [bc] else []) ++ (if oneB vt f = true then [tc] else []))
theorem frF_len (fp fr : Int32) : ∀ k, (frF fp fr k).length ≤ k
  | 0 => Nat.le_refl _
  | k + 1 => by
    have := frF_len fp fr k
    rw [frF]
    split
    · omega
    · rw [List.length_append]; simp; omega
theorem frq_len (vb vt fp fr bc tc f : Int32) : (frq vb vt fp fr bc tc f).length ≤ 4 := by
  have := frF_len fp fr 4
  unfold frq
  cases h1 : oneB vb f <;> cases h2 : oneB vt f <;> simp [h1, h2] <;> omega
/-- a row that begins with a list -/
def layL (r : Nat → Int32) (L : List Int32) : Nat → Int32 := fun i => if i < L.length then L.getD i 0 else r i
theorem layL_app (r : Nat → Int32) (L : List Int32) (x : Int32) : up (layL r L) L.length x = layL r (L ++ [x]) := by
  funext j
  unfold up layL
  rw [List.length_append]
  by_cases h : j = L.length
  · subst h; simp
  · by_cases h2 : j < L.length
    · rw [if_neg h, if_pos h2, if_pos (by simp; omega)]
      simp [List.getD, List.getElem?_append_left h2, h2]
    · rw [if_neg h, if_neg h2, if_neg (by simp; omega)]
theorem layL_nil (r : Nat → Int32) : layL r [] = r := by funext j; simp [layL]
def b2 (b : Bool) : Int32 := if b = true then 1 else 0
theorem b2z {b : Bool} : b2 b = 0 ↔ b = false := by cases b <;> simp [b2]
def frMI (MI : Nat → Nat → Int32) (x f : Int32) : List Int32 := frq (pickV (MI 54) 8 x) (pickV (MI 55) 8 x) (pickV (MI 53) 8 x) (burstV MI 1 x) (pickV (MI 51) 8 x) (pickV (MI 52) 8 x) f
section sheet1
variable {X : xG} {n : Nat} {MI : Nat → Nat → Int32} {ML : Nat → Nat → Int64} {MR : Nat → Nat → Option Nat}
theorem placeL {MI : Nat → Nat → Int32} {a N : Nat} {r : Nat → Int32} {L : List Int32} {x : Int32} (h : L.length < N) (hN : N < 2 ^ 31) : placeM (sr MI a (layL r L)) a N (nI L.length) x = sr MI a (layL r (L ++ [x])) := by
  unfold placeM
  rw [if_pos (inR_t.mp (inR_nI h hN)), nI_clamp (by omega), u2_sr, sr_sr, sr_eq, layL_app]
set_option maxRecDepth 100000 in
theorem c_X8_findRequired (hM : x_Lay MR) {f x : Int32} : Cf X yX8_findRequired cX8_findRequired 9 (some .int) 3 [.ref 43, .int f, .int x] n SH MI ML MR (some (.int (nI (frMI MI x f).length))) (sr MI 56 (layL (MI 56) (frMI MI x f))) ML MR := by
  refine Ct_of (by decide) (Nat.le_of_ble_eq_true rfl) (fun G hG => ?_)
  obtain ⟨vb, hvb⟩ : ∃ v, v = oneB (pickV (MI 54) 8 x) f := ⟨_, rfl⟩
  obtain ⟨vt, hvt⟩ : ∃ v, v = oneB (pickV (MI 55) 8 x) f := ⟨_, rfl⟩
  have hfr : frMI MI x f = (if vb = true ∧ vt = false then frF (pickV (MI 53) 8 x) (burstV MI 1 x) 4 else []) ++ ((if vb = true ∧ vt = true then [pickV (MI 51) 8 x] else []) ++ (if vt = true then [pickV (MI 52) 8 x] else [])) := by rw [hvb, hvt]; rfl
  have e51 : ∀ r, sr MI 56 r 51 = MI 51 := fun r => sr_ne _ _ (by decide)
  have e52 : ∀ r, sr MI 56 r 52 = MI 52 := fun r => sr_ne _ _ (by decide)
  have e53 : ∀ r, sr MI 56 r 53 = MI 53 := fun r => sr_ne _ _ (by decide)
  have j153 : ∀ L, L.length < 4 → frMI MI x f = L ++ (if vt = true then [pickV (MI 52) 8 x] else []) ∨ (vt = false ∧ frMI MI x f = L) → RW X G RX8 cX8_findRequired 9 (x_rm 3 0 0) n SH (sr MI 56 (layL (MI 56) L)) ML MR 0 0 153 [(3, .int (nI L.length)), (5, .int (b2 vt)), (4, .int (b2 vb)), (0, .ref 43), (1, .int f), (2, .int x)] [] := by
    intro L hl hL
    refine r_iload 1 rfl dX8_findRequired_153 ?_
    refine r_ifeq (tgt := 177) dX8_findRequired_155 (by decide) (fun zh155 => ?_) (fun zh155 => ?_)
    · skip
      refine r_iload_n 0 rfl dX8_findRequired_177 ?_
      exact r_iret hG dX8_findRequired_178 (by first | (refine ⟨by rw [hL2, List.length_append]; rfl, ?_, rfl, rfl⟩; rw [e52, placeL hl (by decide), ← hL2]) | (have hv := b2z.mp zh155; have hL2 : frMI MI x f = L := (by rw [hv] at hL; simpa using hL); exact ⟨by rw [hL2], by rw [hL2], rfl, rfl⟩))
    · have hv : vt = true := by cases vt with | true => rfl | false => exact absurd (b2z.mpr rfl) zh155
      have hL2 : frMI MI x f = L ++ [pickV (MI 52) 8 x] := by rw [hv] at hL; simpa using hL
      refine r_aload_n 3 rfl dX8_findRequired_158 ?_
      refine r_getr dX8_findRequired_159 fl_X8_51 rfl (hM _ _ _ rfl) ?_
      refine r_iload_n 0 rfl dX8_findRequired_162 ?_
      refine r_aload_n 3 rfl dX8_findRequired_163 ?_
      refine r_getr dX8_findRequired_164 fl_X8_39 rfl (hM _ _ _ rfl) ?_
      refine r_iload_n 5 rfl dX8_findRequired_167 ?_
      refine r_Sf [.ref _, .int _] dX8_findRequired_168 lk_X8_113 mb_X10_pick sc_X10_pick rfl (c_X10_pick (N := 8) rfl (by decide)) rfl (Nat.le_of_ble_eq_true rfl) (rfl) ?_
      refine r_Sn [.ref _, .int _, .int _] dX8_findRequired_171 lk_X8_166 mb_X10_place sc_X10_place rfl (c_X10_place (N := 4) rfl (by decide)) rfl (Nat.le_of_ble_eq_true rfl) (rfl) ?_
      refine r_iinc (v := (nI (L.length + 1))) (ls2 := [(3, .int (nI (L.length + 1))), (5, .int (b2 vt)), (4, .int (b2 vb)), (0, .ref 43), (1, .int f), (2, .int x)]) 0 dX8_findRequired_174 rfl (x_inc _) (by decide) rfl ?_
      skip
      refine r_iload_n 0 rfl dX8_findRequired_177 ?_
      exact r_iret hG dX8_findRequired_178 (by first | (refine ⟨by rw [hL2, List.length_append]; rfl, ?_, rfl, rfl⟩; rw [e52, placeL hl (by decide), ← hL2]) | (have hv := b2z.mp zh155; have hL2 : frMI MI x f = L := (by rw [hv] at hL; simpa using hL); exact ⟨by rw [hL2], by rw [hL2], rfl, rfl⟩))
  have j124 : ∀ L, L.length ≤ 4 → (vt = true → L = []) → frMI MI x f = L ++ ((if vb = true ∧ vt = true then [pickV (MI 51) 8 x] else []) ++ (if vt = true then [pickV (MI 52) 8 x] else [])) → RW X G RX8 cX8_findRequired 9 (x_rm 3 0 0) n SH (sr MI 56 (layL (MI 56) L)) ML MR 0 0 124 [(3, .int (nI L.length)), (5, .int (b2 vt)), (4, .int (b2 vb)), (0, .ref 43), (1, .int f), (2, .int x)] [] := by
    intro L hl hv0 hL
    have last : vt = false → RW X G RX8 cX8_findRequired 9 (x_rm 3 0 0) n SH (sr MI 56 (layL (MI 56) L)) ML MR 0 0 153 [(3, .int (nI L.length)), (5, .int (b2 vt)), (4, .int (b2 vb)), (0, .ref 43), (1, .int f), (2, .int x)] [] := fun hv => by
      have hL2 : frMI MI x f = L := by rw [hv] at hL; simpa using hL
      refine r_iload 1 rfl dX8_findRequired_153 ?_
      refine r_ifeq (tgt := 177) dX8_findRequired_155 (by decide) (fun zh155 => ?_) (fun zh155 => ?_)
      rotate_left
      · exact absurd zh155 (fun q => q (b2z.mpr hv))
      refine r_iload_n 0 rfl dX8_findRequired_177 ?_
      exact r_iret hG dX8_findRequired_178 (⟨by rw [hL2], by rw [hL2], rfl, rfl⟩)
    refine r_iload 2 rfl dX8_findRequired_124 ?_
    refine r_ifeq (tgt := 153) dX8_findRequired_126 (by decide) (fun zh126 => ?_) (fun zh126 => ?_)
    · first
        | (have hv := b2z.mp zh131; exact last hv)
        | (have hb := b2z.mp zh126
           cases hvc : vt with
           | false => have q := last hvc; rw [hvc] at q; exact q
           | true => have q := j153 L (by rw [hv0 hvc]; decide) (Or.inl (by rw [hb] at hL; simpa using hL)); rw [hvc] at q; exact q)
        | (subst hLn; have q := j153 ([] ++ [pickV (MI 51) 8 x]) (Nat.le_of_ble_eq_true rfl) (Or.inl (by rw [hL, hb, hv]; rfl)); rw [e51, placeL (by decide) (by decide)]; exact q)
    · refine r_iload 1 rfl dX8_findRequired_129 ?_
      refine r_ifeq (tgt := 153) dX8_findRequired_131 (by decide) (fun zh131 => ?_) (fun zh131 => ?_)
      · first
          | (have hv := b2z.mp zh131; exact last hv)
          | (have hb := b2z.mp zh126
             cases hvc : vt with
             | false => have q := last hvc; rw [hvc] at q; exact q
             | true => have q := j153 L (by rw [hv0 hvc]; decide) (Or.inl (by rw [hb] at hL; simpa using hL)); rw [hvc] at q; exact q)
          | (subst hLn; have q := j153 ([] ++ [pickV (MI 51) 8 x]) (Nat.le_of_ble_eq_true rfl) (Or.inl (by rw [hL, hb, hv]; rfl)); rw [e51, placeL (by decide) (by decide)]; exact q)
      · have hv : vt = true := by cases vt with | true => rfl | false => exact absurd (b2z.mpr rfl) zh131
        have hb : vb = true := by cases vb with | true => rfl | false => exact absurd (b2z.mpr rfl) zh126
        have hLn := hv0 hv
        refine r_aload_n 3 rfl dX8_findRequired_134 ?_
        refine r_getr dX8_findRequired_135 fl_X8_51 rfl (hM _ _ _ rfl) ?_
        refine r_iload_n 0 rfl dX8_findRequired_138 ?_
        refine r_aload_n 3 rfl dX8_findRequired_139 ?_
        refine r_getr dX8_findRequired_140 fl_X8_36 rfl (hM _ _ _ rfl) ?_
        refine r_iload_n 5 rfl dX8_findRequired_143 ?_
        refine r_Sf [.ref _, .int _] dX8_findRequired_144 lk_X8_113 mb_X10_pick sc_X10_pick rfl (c_X10_pick (N := 8) rfl (by decide)) rfl (Nat.le_of_ble_eq_true rfl) (rfl) ?_
        refine r_Sn [.ref _, .int _, .int _] dX8_findRequired_147 lk_X8_166 mb_X10_place sc_X10_place rfl (c_X10_place (N := 4) rfl (by decide)) rfl (Nat.le_of_ble_eq_true rfl) (rfl) ?_
        refine r_iinc (v := (nI (L.length + 1))) (ls2 := [(3, .int (nI (L.length + 1))), (5, .int (b2 vt)), (4, .int (b2 vb)), (0, .ref 43), (1, .int f), (2, .int x)]) 0 dX8_findRequired_150 rfl (x_inc _) (by decide) rfl ?_
        first
          | (have hv := b2z.mp zh131; exact last hv)
          | (have hb := b2z.mp zh126
             cases hvc : vt with
             | false => have q := last hvc; rw [hvc] at q; exact q
             | true => have q := j153 L (by rw [hv0 hvc]; decide) (Or.inl (by rw [hb] at hL; simpa using hL)); rw [hvc] at q; exact q)
          | (subst hLn; have q := j153 ([] ++ [pickV (MI 51) 8 x]) (Nat.le_of_ble_eq_true rfl) (Or.inl (by rw [hL, hb, hv]; rfl)); rw [e51, placeL (by decide) (by decide)]; exact q)
  have loop : vb = true → vt = false → ∀ (c8 : Int32), ∀ i, i ≤ 4 → RW X G RX8 cX8_findRequired 9 (x_rm 3 0 0) n SH (sr MI 56 (layL (MI 56) (frF (pickV (MI 53) 8 x) (burstV MI 1 x) i))) ML MR 0 0 69 [(7, .int (nI i)), (6, .int (burstV MI 1 x)), (3, .int (nI (frF (pickV (MI 53) 8 x) (burstV MI 1 x) i).length)), (5, .int (b2 vt)), (4, .int (b2 vb)), (0, .ref 43), (1, .int f), (2, .int x)] [] := by
    intro hb hv c8
    refine bwd (fun i hi ih => ?_)
    have hlen := frF_len (pickV (MI 53) 8 x) (burstV MI 1 x) i
    refine r_iload 0 rfl dX8_findRequired_69 ?_
    refine r_iconst (v := 4) rfl dX8_findRequired_71 ?_
    refine r_icmpge (tgt := 124) dX8_findRequired_72 (by decide) (fun zh72 => ?_) (fun zh72 => ?_)
    · obtain rfl : i = 4 := by have := geL (k := 4) (by decide) (by omega) zh72; omega
      exact r_sub [2, 3, 4, 5, 6, 7] rfl (j124 _ hlen (fun h => absurd h (by rw [hv]; decide)) (by rw [hfr, if_pos ⟨hb, hv⟩]))
    · have hlt : i < 4 := ltL (by omega) zh72
      refine r_iconst (v := 1) rfl dX8_findRequired_75 ?_
      refine r_iload 0 rfl dX8_findRequired_76 ?_
      refine r_ishl dX8_findRequired_78 ?_
      refine r_nmi (fun zv79 ze79 => ?_)
      refine r_istore (ls2 := [(8, .int zv79), (7, .int (nI i)), (6, .int (burstV MI 1 x)), (3, .int (nI (frF (pickV (MI 53) 8 x) (burstV MI 1 x) i).length)), (5, .int (b2 vt)), (4, .int (b2 vb)), (0, .ref 43), (1, .int f), (2, .int x)]) dX8_findRequired_79 (by decide) rfl ?_
      refine r_iload 2 rfl dX8_findRequired_81 ?_
      refine r_iload 0 rfl dX8_findRequired_83 ?_
      refine r_iand dX8_findRequired_85 ?_
      refine r_ifeq (tgt := 118) dX8_findRequired_86 (by decide) (fun zh86 => ?_) (fun zh86 => ?_)
      · refine r_iinc (v := (nI (i + 1))) (ls2 := [(7, .int (nI (i + 1))), (8, .int zv79), (6, .int (burstV MI 1 x)), (3, .int (nI (frF (pickV (MI 53) 8 x) (burstV MI 1 x) i).length)), (5, .int (b2 vt)), (4, .int (b2 vb)), (0, .ref 43), (1, .int f), (2, .int x)]) 1 dX8_findRequired_118 rfl (x_inc i) (by decide) rfl ?_
        refine r_goto (tgt := 69) dX8_findRequired_121 (by decide) ?_
        have q := ih hlt
        rw [ze79] at zh86
        first
          | (have hs : frF (pickV (MI 53) 8 x) (burstV MI 1 x) (i + 1) = frF (pickV (MI 53) 8 x) (burstV MI 1 x) i := (by rw [frF, if_pos zh86])
             rw [hs] at q
             exact r_sub [0, 2, 3, 4, 5, 6, 7, 8] rfl q)
          | (have hs : frF (pickV (MI 53) 8 x) (burstV MI 1 x) (i + 1) = frF (pickV (MI 53) 8 x) (burstV MI 1 x) i ++ [numC (pickV (MI 53) 8 x) (burstV MI 1 x &&& (((1 : Int32) <<< (nI i &&& 31)) ^^^ -1)) 6] := (by rw [frF, if_neg zh86])
             rw [hs, List.length_append] at q
             refine r_mem ?_ rfl rfl (r_sub [0, 2, 3, 4, 5, 6, 7, 8] rfl q)
             rw [e53, ze79]
             exact placeL (by omega) (by decide))
      · refine r_aload_n 6 rfl dX8_findRequired_89 ?_
        refine r_getr dX8_findRequired_90 fl_X8_51 rfl (hM _ _ _ rfl) ?_
        refine r_iload_n 3 rfl dX8_findRequired_93 ?_
        refine r_aload_n 6 rfl dX8_findRequired_94 ?_
        refine r_getr dX8_findRequired_95 fl_X8_42 rfl (hM _ _ _ rfl) ?_
        refine r_iload_n 8 rfl dX8_findRequired_98 ?_
        refine r_Sf [.ref _, .int _] dX8_findRequired_99 lk_X8_113 mb_X10_pick sc_X10_pick rfl (c_X10_pick (N := 8) rfl (by decide)) rfl (Nat.le_of_ble_eq_true rfl) (rfl) ?_
        refine r_iload 2 rfl dX8_findRequired_102 ?_
        refine r_iload 0 rfl dX8_findRequired_104 ?_
        refine r_iconst (v := (-1)) rfl dX8_findRequired_106 ?_
        refine r_ixor dX8_findRequired_107 ?_
        refine r_iand dX8_findRequired_108 ?_
        refine r_Sf [.int _, .int _] dX8_findRequired_109 lk_X8_148 mb_X2_numberOf sc_X2_numberOf rfl (c_X2_numberOf) rfl (Nat.le_of_ble_eq_true rfl) (rfl) ?_
        refine r_Sn [.ref _, .int _, .int _] dX8_findRequired_112 lk_X8_166 mb_X10_place sc_X10_place rfl (c_X10_place (N := 4) rfl (by decide)) rfl (Nat.le_of_ble_eq_true rfl) (rfl) ?_
        refine r_iinc (v := (nI ((frF (pickV (MI 53) 8 x) (burstV MI 1 x) i).length + 1))) (ls2 := [(3, .int (nI ((frF (pickV (MI 53) 8 x) (burstV MI 1 x) i).length + 1))), (8, .int zv79), (7, .int (nI i)), (6, .int (burstV MI 1 x)), (5, .int (b2 vt)), (4, .int (b2 vb)), (0, .ref 43), (1, .int f), (2, .int x)]) 3 dX8_findRequired_115 rfl (x_inc _) (by decide) rfl ?_
        refine r_iinc (v := (nI (i + 1))) (ls2 := [(7, .int (nI (i + 1))), (3, .int (nI ((frF (pickV (MI 53) 8 x) (burstV MI 1 x) i).length + 1))), (8, .int zv79), (6, .int (burstV MI 1 x)), (5, .int (b2 vt)), (4, .int (b2 vb)), (0, .ref 43), (1, .int f), (2, .int x)]) 2 dX8_findRequired_118 rfl (x_inc i) (by decide) rfl ?_
        refine r_goto (tgt := 69) dX8_findRequired_121 (by decide) ?_
        have q := ih hlt
        rw [ze79] at zh86
        first
          | (have hs : frF (pickV (MI 53) 8 x) (burstV MI 1 x) (i + 1) = frF (pickV (MI 53) 8 x) (burstV MI 1 x) i := (by rw [frF, if_pos zh86])
             rw [hs] at q
             exact r_sub [0, 3, 1, 4, 5, 6, 7, 8] rfl q)
          | (have hs : frF (pickV (MI 53) 8 x) (burstV MI 1 x) (i + 1) = frF (pickV (MI 53) 8 x) (burstV MI 1 x) i ++ [numC (pickV (MI 53) 8 x) (burstV MI 1 x &&& (((1 : Int32) <<< (nI i &&& 31)) ^^^ -1)) 6] := (by rw [frF, if_neg zh86])
             rw [hs, List.length_append] at q
             refine r_mem ?_ rfl rfl (r_sub [0, 3, 1, 4, 5, 6, 7, 8] rfl q)
             rw [e53, ze79]
             exact placeL (by omega) (by decide))
  have j46 : RW X G RX8 cX8_findRequired 9 (x_rm 3 0 0) n SH MI ML MR 0 0 46 [(5, .int (b2 vt)), (4, .int (b2 vb)), (3, .int 0), (0, .ref 43), (1, .int f), (2, .int x)] [] := by
    have start : ∀ (h : ¬ (vb = true ∧ vt = false)), RW X G RX8 cX8_findRequired 9 (x_rm 3 0 0) n SH MI ML MR 0 0 124 [(5, .int (b2 vt)), (4, .int (b2 vb)), (3, .int 0), (0, .ref 43), (1, .int f), (2, .int x)] [] := fun h => by
      have q := j124 [] (by decide) (fun _ => rfl) (by rw [hfr, if_neg h])
      rw [layL_nil, sr_id] at q
      exact r_sub [2, 0, 1, 3, 4, 5] rfl q
    refine r_iload 1 rfl dX8_findRequired_46 ?_
    refine r_ifeq (tgt := 124) dX8_findRequired_48 (by decide) (fun zh48 => ?_) (fun zh48 => ?_)
    · first
        | exact start (fun z => absurd (b2z.mp zh48) (by rw [z.1]; decide))
        | exact start (fun z => zh53 (b2z.mpr z.2))
    · refine r_iload 0 rfl dX8_findRequired_51 ?_
      refine r_ifne (tgt := 124) dX8_findRequired_53 (by decide) (fun zh53 => ?_) (fun zh53 => ?_)
      · first
          | exact start (fun z => absurd (b2z.mp zh48) (by rw [z.1]; decide))
          | exact start (fun z => zh53 (b2z.mpr z.2))
      · refine r_aload_n 3 rfl dX8_findRequired_56 ?_
        refine r_getr dX8_findRequired_57 fl_X8_54 rfl (hM _ _ _ rfl) ?_
        refine r_iload_n 5 rfl dX8_findRequired_60 ?_
        refine r_Vf [.int _] dX8_findRequired_61 lk_X8_124 mb_X5_burstInputs in_X5_burstInputs se_X5_burstInputs rfl (c_X5_burstInputs_1 hM) rfl rfl rfl (Nat.le_of_ble_eq_true rfl) (rfl) ?_
        refine r_istore (ls2 := [(6, .int (burstV MI 1 x)), (5, .int (b2 vt)), (4, .int (b2 vb)), (3, .int 0), (0, .ref 43), (1, .int f), (2, .int x)]) dX8_findRequired_64 (by decide) rfl ?_
        refine r_iconst (v := 0) rfl dX8_findRequired_66 ?_
        refine r_istore (ls2 := [(7, .int 0), (6, .int (burstV MI 1 x)), (5, .int (b2 vt)), (4, .int (b2 vb)), (3, .int 0), (0, .ref 43), (1, .int f), (2, .int x)]) dX8_findRequired_67 (by decide) rfl ?_
        have hb : vb = true := by cases vb with | true => rfl | false => exact absurd (b2z.mpr rfl) zh48
        have hv := b2z.mp zh53
        have q := loop hb hv 0 0 (by decide)
        rw [show frF (pickV (MI 53) 8 x) (burstV MI 1 x) 0 = [] from rfl, layL_nil, sr_id] at q
        exact r_sub [0, 1, 4, 2, 3, 5, 6, 7] rfl q
  refine r_iconst (v := 0) rfl dX8_findRequired_0 ?_
  refine r_istore_n (ls2 := [(3, .int 0), (0, .ref 43), (1, .int f), (2, .int x)]) dX8_findRequired_1 (by decide) rfl ?_
  refine r_aload_n 1 rfl dX8_findRequired_2 ?_
  refine r_getr dX8_findRequired_3 fl_X8_45 rfl (hM _ _ _ rfl) ?_
  refine r_iload_n 3 rfl dX8_findRequired_6 ?_
  refine r_Sf [.ref _, .int _] dX8_findRequired_7 lk_X8_113 mb_X10_pick sc_X10_pick rfl (c_X10_pick (N := 8) rfl (by decide)) rfl (Nat.le_of_ble_eq_true rfl) (rfl) ?_
  refine r_iconst (v := 1) rfl dX8_findRequired_10 ?_
  refine r_iload_n 2 rfl dX8_findRequired_11 ?_
  refine r_ishl dX8_findRequired_12 ?_
  refine r_iand dX8_findRequired_13 ?_
  refine r_ifeq (tgt := 21) dX8_findRequired_14 (by decide) (fun zh14 => ?_) (fun zh14 => ?_)
  · refine r_iconst (v := 0) rfl dX8_findRequired_21 ?_
    refine r_istore (ls2 := [(4, .int 0), (3, .int 0), (0, .ref 43), (1, .int f), (2, .int x)]) dX8_findRequired_22 (by decide) rfl ?_
    refine r_aload_n 2 rfl dX8_findRequired_24 ?_
    refine r_getr dX8_findRequired_25 fl_X8_48 rfl (hM _ _ _ rfl) ?_
    refine r_iload_n 4 rfl dX8_findRequired_28 ?_
    refine r_Sf [.ref _, .int _] dX8_findRequired_29 lk_X8_113 mb_X10_pick sc_X10_pick rfl (c_X10_pick (N := 8) rfl (by decide)) rfl (Nat.le_of_ble_eq_true rfl) (rfl) ?_
    refine r_iconst (v := 1) rfl dX8_findRequired_32 ?_
    refine r_iload_n 3 rfl dX8_findRequired_33 ?_
    refine r_ishl dX8_findRequired_34 ?_
    refine r_iand dX8_findRequired_35 ?_
    refine r_ifeq (tgt := 43) dX8_findRequired_36 (by decide) (fun zh36 => ?_) (fun zh36 => ?_)
    · refine r_iconst (v := 0) rfl dX8_findRequired_43 ?_
      refine r_istore (ls2 := [(5, .int 0), (4, .int 0), (3, .int 0), (0, .ref 43), (1, .int f), (2, .int x)]) dX8_findRequired_44 (by decide) rfl ?_
      have q := j46
      rw [show b2 vt = 0 from by rw [hvt]; unfold oneB b2; simp [zh36], show b2 vb = 0 from by rw [hvb]; unfold oneB b2; simp [zh14]] at q
      exact r_sub [0, 1, 2, 3, 4, 5] rfl q
    · refine r_iconst (v := 1) rfl dX8_findRequired_39 ?_
      refine r_goto (tgt := 44) dX8_findRequired_40 (by decide) ?_
      refine r_istore (ls2 := [(5, .int 1), (4, .int 0), (3, .int 0), (0, .ref 43), (1, .int f), (2, .int x)]) dX8_findRequired_44 (by decide) rfl ?_
      have q := j46
      rw [show b2 vt = 1 from by rw [hvt]; unfold oneB b2; simp [zh36], show b2 vb = 0 from by rw [hvb]; unfold oneB b2; simp [zh14]] at q
      exact r_sub [0, 1, 2, 3, 4, 5] rfl q
  · refine r_iconst (v := 1) rfl dX8_findRequired_17 ?_
    refine r_goto (tgt := 22) dX8_findRequired_18 (by decide) ?_
    refine r_istore (ls2 := [(4, .int 1), (3, .int 0), (0, .ref 43), (1, .int f), (2, .int x)]) dX8_findRequired_22 (by decide) rfl ?_
    refine r_aload_n 2 rfl dX8_findRequired_24 ?_
    refine r_getr dX8_findRequired_25 fl_X8_48 rfl (hM _ _ _ rfl) ?_
    refine r_iload_n 4 rfl dX8_findRequired_28 ?_
    refine r_Sf [.ref _, .int _] dX8_findRequired_29 lk_X8_113 mb_X10_pick sc_X10_pick rfl (c_X10_pick (N := 8) rfl (by decide)) rfl (Nat.le_of_ble_eq_true rfl) (rfl) ?_
    refine r_iconst (v := 1) rfl dX8_findRequired_32 ?_
    refine r_iload_n 3 rfl dX8_findRequired_33 ?_
    refine r_ishl dX8_findRequired_34 ?_
    refine r_iand dX8_findRequired_35 ?_
    refine r_ifeq (tgt := 43) dX8_findRequired_36 (by decide) (fun zh36 => ?_) (fun zh36 => ?_)
    · refine r_iconst (v := 0) rfl dX8_findRequired_43 ?_
      refine r_istore (ls2 := [(5, .int 0), (4, .int 1), (3, .int 0), (0, .ref 43), (1, .int f), (2, .int x)]) dX8_findRequired_44 (by decide) rfl ?_
      have q := j46
      rw [show b2 vt = 0 from by rw [hvt]; unfold oneB b2; simp [zh36], show b2 vb = 1 from by rw [hvb]; unfold oneB b2; simp [zh14]] at q
      exact r_sub [0, 1, 2, 3, 4, 5] rfl q
    · refine r_iconst (v := 1) rfl dX8_findRequired_39 ?_
      refine r_goto (tgt := 44) dX8_findRequired_40 (by decide) ?_
      refine r_istore (ls2 := [(5, .int 1), (4, .int 1), (3, .int 0), (0, .ref 43), (1, .int f), (2, .int x)]) dX8_findRequired_44 (by decide) rfl ?_
      have q := j46
      rw [show b2 vt = 1 from by rw [hvt]; unfold oneB b2; simp [zh36], show b2 vb = 1 from by rw [hvb]; unfold oneB b2; simp [zh14]] at q
      exact r_sub [0, 1, 2, 3, 4, 5] rfl q
end sheet1

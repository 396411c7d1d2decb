/-! Finder: sortByRarity, leastRow -/
def shf (g : Nat → Int64) (i s : Nat) : Nat → Int64 := fun j => if s < j ∧ j ≤ i then g (j - 1) else g j
theorem shf_bits {g : Nat → Int64} {i s : Nat} (hs : s ≤ i) (h : isBits g i) : isBits (up (shf g i s) s (bitL i)) (i + 1) := by
  refine ⟨fun j hj => ?_, fun q hq => ?_⟩
  · by_cases e : j = s
    · exact ⟨i, by omega, by simp [up, e]⟩
    · by_cases h2 : s < j
      · obtain ⟨q, h3, h4⟩ := h.1 (j - 1) (by omega)
        exact ⟨q, by omega, by simp only [up, e, if_false, shf]; rw [if_pos ⟨h2, by omega⟩, h4]⟩
      · obtain ⟨q, h3, h4⟩ := h.1 j (by omega)
        exact ⟨q, by omega, by simp only [up, e, if_false, shf]; rw [if_neg (fun z => h2 z.1), h4]⟩
  · by_cases e : q = i
    · exact ⟨s, by omega, by simp [up, e]⟩
    · obtain ⟨j, h3, h4⟩ := h.2 q (by omega)
      by_cases h2 : j < s
      · exact ⟨j, by omega, by simp only [up, shf]; rw [if_neg (by omega), if_neg (by omega), h4]⟩
      · exact ⟨j + 1, by omega, by simp only [up, shf]; rw [if_neg (by omega), if_pos ⟨by omega, by omega⟩]; exact h4⟩
/-- how many the fewest are; 6: more than 5 -/
def lrN (f : Nat → Bool) : Nat := ((List.range 6).find? f).getD 6
def lrS (H R : Nat → Int64) (np nr cnt : Nat) : Nat → Nat × Int64 × (Nat → Int32) → Nat × Int64 × (Nat → Int32)
  | 0, s => s
  | p + 1, s => if (lrS H R np nr cnt p s).1 < cnt ∧ ¬ H p &&& (lrS H R np nr cnt p s).2.1 = 0 ∧ chV H R np nr (cnt - (lrS H R np nr cnt p s).1 - 1) ((lrS H R np nr cnt p s).2.1 &&& (H p ^^^ -1)) (p + 1) = true then ((lrS H R np nr cnt p s).1 + 1, (lrS H R np nr cnt p s).2.1 &&& (H p ^^^ -1), up (lrS H R np nr cnt p s).2.2 (lrS H R np nr cnt p s).1 (nI p)) else lrS H R np nr cnt p s
theorem lrS_stop {H R : Nat → Int64} {np nr cnt p : Nat} {s : Nat × Int64 × (Nat → Int32)} (h : ¬ (lrS H R np nr cnt p s).1 < cnt) : ∀ j, lrS H R np nr cnt (p + j) s = lrS H R np nr cnt p s
  | 0 => rfl
  | j + 1 => by rw [show p + (j + 1) = (p + j) + 1 by omega, lrS, lrS_stop h j, if_neg (fun q => h q.1)]
theorem lrS_le {H R : Nat → Int64} {np nr cnt : Nat} {s : Nat × Int64 × (Nat → Int32)} (hs : s.1 ≤ cnt) : ∀ p, (lrS H R np nr cnt p s).1 ≤ cnt
  | 0 => hs
  | p + 1 => by
    have := lrS_le (H := H) (R := R) (np := np) (nr := nr) hs p
    rw [lrS]
    split
    · rename_i q; exact q.1
    · exact this
/-- leastRow: how many, and the row -/
def lrR (H R : Nat → Int64) (np nr : Nat) (row : Nat → Int32) : Nat × (Nat → Int32) :=
  (lrN (fun c => chV H R np nr c (bitL nr - 1) 0), if lrN (fun c => chV H R np nr c (bitL nr - 1) 0) ≤ 5 then (lrS H R np nr (lrN (fun c => chV H R np nr c (bitL nr - 1) 0)) np (0, bitL nr - 1, row)).2.2 else row)
section finder3
variable {X : xG} {n : Nat} {MI : Nat → Nat → Int32} {ML : Nat → Nat → Int64} {MR : Nat → Nat → Option Nat}
set_option maxRecDepth 100000 in
theorem c_X4_sortByRarity (hM : x_Lay MR) {np nr : Nat} (hn : np ≤ 240) (hp : MI 86 1 = nI np) (hr : nr ≤ 33) (hq : MI 86 2 = nI nr) : Ct X yX4_sortByRarity cX4_sortByRarity 6 none 3 0 0 [.ref 86] n SH MI ML MR n SH (fun r A B C => r = none ∧ A = MI ∧ C = MR ∧ ∃ g, B = sr ML 88 g ∧ isBits g nr) := by
  refine Ct_of (by decide) (Nat.le_of_ble_eq_true rfl) (fun G hG => ?_)
  have loop : ∀ i, i ≤ nr → ∀ g, isBits g i → RW X G RX4 cX4_sortByRarity 6 (x_rm 3 0 0) n SH MI (sr ML 88 g) MR 0 0 2 [(1, .int (nI i)), (0, .ref 86)] [] := by
    refine bwd (fun i hi ih g hg => ?_)
    have inner : i < nr → ∀ (c4 : Int32) u, u ≤ i → RW X G RX4 cX4_sortByRarity 6 (x_rm 3 0 0) n SH MI (sr ML 88 (shf g i (i - u))) MR 0 0 30 [(5, .int (nI (i - u))), (4, .int c4), (2, .long (bitL i)), (1, .int (nI i)), (0, .ref 86)] [] := by
      intro hlt c4
      refine bwd (fun u hu ihu => ?_)
      have e88 : ∀ g, sr ML 88 g 88 = g := fun g => sr_eq ML 88 g
      have hdn : u < i → nI (i - u) - 1 = nI (i - (u + 1)) := fun h => by have z := nI_pred (i - (u + 1)); rw [show i - (u + 1) + 1 = i - u by omega] at z; exact z
      refine r_iload 0 rfl dX4_sortByRarity_30 ?_
      refine r_ifle (tgt := 75) dX4_sortByRarity_32 (by decide) (fun zh32 => ?_) (fun zh32 => ?_)
      · refine r_aload_n 4 rfl dX4_sortByRarity_75 ?_
        refine r_getr dX4_sortByRarity_76 fl_X4_17 rfl (hM _ _ _ rfl) ?_
        refine r_iload 0 rfl dX4_sortByRarity_79 ?_
        refine r_lload_n 2 rfl dX4_sortByRarity_81 ?_
        refine r_last dX4_sortByRarity_82 rfl (vp_in_nI (show i - u < 33 by omega) (by decide)) ?_
        refine r_iinc (v := (nI (i + 1))) (ls2 := [(1, .int (nI (i + 1))), (5, .int (nI (i - u))), (4, .int c4), (2, .long (bitL i)), (0, .ref 86)]) 3 dX4_sortByRarity_83 rfl (x_inc i) (by decide) rfl ?_
        refine r_goto (tgt := 2) dX4_sortByRarity_86 (by decide) ?_
        refine r_mem rfl ?_ rfl (r_sub [0, 4] rfl (ih hlt _ (shf_bits (s := i - u) (by omega) hg)))
        rw [nI_clamp (by omega)]
        funext b j
        simp only [u2, sr, up]
        grind
      · have hui : u < i := by
          rcases Nat.lt_or_ge u i with z | z
          · exact z
          · exact absurd (show nI (i - u) ≤ 0 by rw [show i - u = 0 by omega]; decide) zh32
        refine r_aload_n 4 rfl dX4_sortByRarity_35 ?_
        refine r_aload_n 4 rfl dX4_sortByRarity_36 ?_
        refine r_getr dX4_sortByRarity_37 fl_X4_17 rfl (hM _ _ _ rfl) ?_
        refine r_iload 0 rfl dX4_sortByRarity_40 ?_
        refine r_iconst (v := 1) rfl dX4_sortByRarity_42 ?_
        refine r_isub dX4_sortByRarity_43 ?_
        refine r_lald dX4_sortByRarity_44 rfl (by rw [hdn hui]; exact vp_in_nI (show i - (u + 1) < 33 by omega) (by decide)) ?_
        refine r_Vf [.long _] dX4_sortByRarity_45 lk_X4_31 mb_X4_holdersOf in_X4_holdersOf se_X4_holdersOf rfl (c_X4_holdersOf hM hn hp) rfl rfl rfl (Nat.le_of_ble_eq_true rfl) (rfl) ?_
        refine r_iload 1 rfl dX4_sortByRarity_48 ?_
        refine r_icmple (tgt := 75) dX4_sortByRarity_50 (by decide) (fun zh50 => ?_) (fun zh50 => ?_)
        · refine r_aload_n 4 rfl dX4_sortByRarity_75 ?_
          refine r_getr dX4_sortByRarity_76 fl_X4_17 rfl (hM _ _ _ rfl) ?_
          refine r_iload 0 rfl dX4_sortByRarity_79 ?_
          refine r_lload_n 2 rfl dX4_sortByRarity_81 ?_
          refine r_last dX4_sortByRarity_82 rfl (vp_in_nI (show i - u < 33 by omega) (by decide)) ?_
          refine r_iinc (v := (nI (i + 1))) (ls2 := [(1, .int (nI (i + 1))), (5, .int (nI (i - u))), (4, .int c4), (2, .long (bitL i)), (0, .ref 86)]) 3 dX4_sortByRarity_83 rfl (x_inc i) (by decide) rfl ?_
          refine r_goto (tgt := 2) dX4_sortByRarity_86 (by decide) ?_
          refine r_mem rfl ?_ rfl (r_sub [0, 4] rfl (ih hlt _ (shf_bits (s := i - u) (by omega) hg)))
          rw [nI_clamp (by omega)]
          funext b j
          simp only [u2, sr, up]
          grind
        · refine r_aload_n 4 rfl dX4_sortByRarity_53 ?_
          refine r_getr dX4_sortByRarity_54 fl_X4_17 rfl (hM _ _ _ rfl) ?_
          refine r_iload 0 rfl dX4_sortByRarity_57 ?_
          refine r_aload_n 4 rfl dX4_sortByRarity_59 ?_
          refine r_getr dX4_sortByRarity_60 fl_X4_17 rfl (hM _ _ _ rfl) ?_
          refine r_iload 0 rfl dX4_sortByRarity_63 ?_
          refine r_iconst (v := 1) rfl dX4_sortByRarity_65 ?_
          refine r_isub dX4_sortByRarity_66 ?_
          refine r_lald dX4_sortByRarity_67 rfl (by rw [hdn hui]; exact vp_in_nI (show i - (u + 1) < 33 by omega) (by decide)) ?_
          refine r_last dX4_sortByRarity_68 rfl (vp_in_nI (show i - u < 33 by omega) (by decide)) ?_
          refine r_iinc (v := (nI (i - (u + 1)))) (ls2 := [(5, .int (nI (i - (u + 1)))), (4, .int c4), (2, .long (bitL i)), (1, .int (nI i)), (0, .ref 86)]) 0 dX4_sortByRarity_69 rfl (by have z := x_dec (i - (u + 1)); rw [show i - (u + 1) + 1 = i - u by omega] at z; exact z) (by decide) rfl ?_
          refine r_goto (tgt := 30) dX4_sortByRarity_72 (by decide) ?_
          refine r_mem rfl ?_ rfl (r_sub [0, 1, 2, 3, 4] rfl (ihu hui))
          rw [hdn hui, nI_clamp (by omega), nI_clamp (by omega), e88]
          funext b j
          simp only [u2, sr, shf]
          grind
    refine r_iload_n 0 rfl dX4_sortByRarity_2 ?_
    refine r_aload_n 1 rfl dX4_sortByRarity_3 ?_
    refine r_geti dX4_sortByRarity_4 fl_X4_20 rfl ?_
    refine r_icmpge (tgt := 89) dX4_sortByRarity_7 (by decide) (fun zh7 => ?_) (fun zh7 => ?_)
    · rw [hq] at zh7
      obtain rfl : i = nr := by have := geL (k := nr) (by omega) (by omega) zh7; omega
      exact r_vret hG dX4_sortByRarity_89 (⟨rfl, rfl, rfl, g, rfl, hg⟩)
    · rw [hq] at zh7
      have hlt : i < nr := ltL (by omega) zh7
      refine r_iload_n 0 rfl dX4_sortByRarity_10 ?_
      refine r_bipush (v := 33) rfl dX4_sortByRarity_11 ?_
      refine r_icmpge (tgt := 89) dX4_sortByRarity_13 (by decide) (fun zh13 => ?_) (fun zh13 => ?_)
      · exact absurd zh13 (fun q => absurd (geL (k := 33) (by decide) (by omega) q) (by omega))
      refine r_lconst (v := 1) rfl dX4_sortByRarity_16 ?_
      refine r_iload_n 0 rfl dX4_sortByRarity_17 ?_
      refine r_lshl dX4_sortByRarity_18 ?_
      refine r_lstore_n (ls2 := [(2, .long (bitL i)), (1, .int (nI i)), (0, .ref 86)]) dX4_sortByRarity_19 (by decide) rfl ?_
      refine r_aload_n 2 rfl dX4_sortByRarity_20 ?_
      refine r_lload_n 0 rfl dX4_sortByRarity_21 ?_
      refine r_Vf [.long _] dX4_sortByRarity_22 lk_X4_31 mb_X4_holdersOf in_X4_holdersOf se_X4_holdersOf rfl (c_X4_holdersOf hM hn hp) rfl rfl rfl (Nat.le_of_ble_eq_true rfl) (rfl) ?_
      refine r_nmi (fun zv25 ze25 => ?_)
      refine r_istore (ls2 := [(4, .int zv25), (2, .long (bitL i)), (1, .int (nI i)), (0, .ref 86)]) dX4_sortByRarity_25 (by decide) rfl ?_
      refine r_iload_n 2 rfl dX4_sortByRarity_27 ?_
      refine r_istore (ls2 := [(5, .int (nI i)), (4, .int zv25), (2, .long (bitL i)), (1, .int (nI i)), (0, .ref 86)]) dX4_sortByRarity_28 (by decide) rfl ?_
      have q := inner hlt zv25 0 (by omega)
      refine r_mem rfl ?_ rfl (r_sub [0, 1, 2, 3, 4] rfl q)
      funext b j
      simp only [sr, shf]
      grind
  refine r_iconst (v := 0) rfl dX4_sortByRarity_0 ?_
  refine r_istore_n (ls2 := [(1, .int 0), (0, .ref 86)]) dX4_sortByRarity_1 (by decide) rfl ?_
  refine r_mem rfl (sr_id ML 88).symm rfl (loop 0 (by omega) (ML 88) ⟨fun j h => absurd h (by omega), fun j h => absurd h (by omega)⟩)
theorem lrN_stop {f : Nat → Bool} {c : Nat} (hc : c ≤ 5) (h : f c = true) (hno : ∀ k, k < c → f k = false) : lrN f = c := by
  unfold lrN
  rw [show (List.range 6).find? f = some c from by rw [List.find?_range_eq_some]; exact ⟨h, List.mem_range.mpr (by omega), fun k hk => by rw [hno k hk]; rfl⟩]
  rfl
theorem lrN_none {f : Nat → Bool} (hno : ∀ k, k < 6 → f k = false) : lrN f = 6 := by
  unfold lrN
  rw [show (List.range 6).find? f = none from by rw [List.find?_eq_none]; intro k hk; rw [hno k (List.mem_range.mp hk)]; decide]
  rfl
set_option maxRecDepth 100000 in
theorem c_X4_leastRow (hM : x_Lay MR) {np nr ra : Nat} (hn : np ≤ 240) (hp : MI 86 1 = nI np) (hr : nr ≤ 33) (hq : MI 86 2 = nI nr) (hra : SH[ra]? = some (13, 5)) (hr86 : ra ≠ 86) : Ct X yX4_leastRow cX4_leastRow 7 (some .int) 9 0 0 [.ref 86, .ref ra] n SH MI ML MR n SH (fun r A B C => ∃ g, isBits g nr ∧ r = some (.int (nI (lrR (ML 87) g np nr (MI ra)).1)) ∧ A = sr MI ra (lrR (ML 87) g np nr (MI ra)).2 ∧ B = sr ML 88 g ∧ C = MR) := by
  refine Ct_of (by decide) (Nat.le_of_ble_eq_true rfl) (fun G hG => ?_)
  have main : ∀ g, isBits g nr → RW X G RX4 cX4_leastRow 7 (x_rm 9 0 0) n SH MI (sr ML 88 g) MR 0 0 4 [(0, .ref 86), (1, .ref ra)] [] := by
    intro g hg
    obtain ⟨g0, hg0⟩ : ∃ g0, g0 = g := ⟨_, rfl⟩
    have e87 : sr ML 88 g 87 = ML 87 := sr_ne ML g (by decide)
    have e88 : sr ML 88 g 88 = g := sr_eq ML 88 g
    have hcan : ∀ (W : Nat → Nat → Int32), W 86 = MI 86 → ∀ k, k ≤ 5 → ∀ o a, a ≤ np → Cf X yX4_canHold cX4_canHold 10 (some .boolean) (3 + k) [.ref 86, .long o, .int (nI k), .int (nI a)] n SH W (sr ML 88 g) MR (some (.int (if chV (ML 87) g np nr k o a = true then 1 else 0))) W (sr ML 88 g) MR := fun W hW k hk o a ha => by
      have h := c_X4_canHold (X := X) (n := n) (MI := W) (ML := sr ML 88 g) (MR := MR) hM hn (by rw [hW]; exact hp) hr (by rw [hW]; exact hq) k hk o a ha
      rw [e87, e88] at h
      exact h
    have hheld : ∀ (W : Nat → Nat → Int32) (x : Int32), Cf X yX4_heldBy cX4_heldBy 2 (some .long) 1 [.ref 86, .int x] n SH W (sr ML 88 g) MR (some (.long (heldV (ML 87) x))) W (sr ML 88 g) MR := fun W x => by
      have h := c_X4_heldBy (X := X) (n := n) (MI := W) (ML := sr ML 88 g) (MR := MR) (x := x) hM
      rw [e87] at h
      exact h
    obtain ⟨f, hf⟩ : ∃ f : Nat → Bool, f = fun c => chV (ML 87) g np nr c (bitL nr - 1) 0 := ⟨_, rfl⟩
    obtain ⟨cnt, hcnt⟩ : ∃ cnt, cnt = lrN f := ⟨_, rfl⟩
    obtain ⟨S, hSd⟩ : ∃ S : Nat → Nat × Int64 × (Nat → Int32), S = fun p => lrS (ML 87) g np nr cnt p (0, bitL nr - 1, MI ra) := ⟨_, rfl⟩
    have hres : lrR (ML 87) g np nr (MI ra) = (cnt, if cnt ≤ 5 then (S np).2.2 else MI ra) := by rw [hSd, hcnt, hf]; rfl
    have hle : ∀ p, (S p).1 ≤ cnt := fun p => by rw [hSd]; exact lrS_le (Nat.zero_le _) p
    have l2 : cnt ≤ 6 → ∀ p, p ≤ np → RW X G RX4 cX4_leastRow 7 (x_rm 9 0 0) n SH (if cnt ≤ 5 then sr MI ra (S p).2.2 else MI) (sr ML 88 g) MR 0 0 45 [(6, .int (nI p)), (5, .int (nI (if cnt ≤ 5 then (S p).1 else 0))), (4, .int (nI cnt)), (2, .long (if cnt ≤ 5 then (S p).2.1 else bitL nr - 1)), (0, .ref 86), (1, .ref ra)] [] := by
      intro hc6
      by_cases hc5 : cnt ≤ 5
      · simp only [hc5, if_true] at hres ⊢
        refine bwd (fun p hpn ih => ?_)
        have hW : sr MI ra (S p).2.2 86 = MI 86 := sr_ne MI _ (Ne.symm hr86)
        have hW1 : sr MI ra (S p).2.2 86 1 = nI np := by rw [hW]; exact hp
        have hlp := hle p
        have hSs : ∀ b : Bool, (decide ((S p).1 < cnt) && (decide (¬ ML 87 p &&& (S p).2.1 = 0) && chV (ML 87) g np nr (cnt - (S p).1 - 1) ((S p).2.1 &&& (ML 87 p ^^^ -1)) (p + 1))) = b → S (p + 1) = if b = true then ((S p).1 + 1, (S p).2.1 &&& (ML 87 p ^^^ -1), up (S p).2.2 (S p).1 (nI p)) else S p := fun b hb => by
          rw [← hb, hSd]
          simp only [Bool.and_eq_true, decide_eq_true_eq]
          rfl
        have hfin : p = np ∨ ¬ (S p).1 < cnt → (S np).2.2 = (S p).2.2 := fun h => by
          rcases h with h | h
          · rw [h]
          · have z := lrS_stop (H := ML 87) (R := g) (np := np) (nr := nr) (cnt := cnt) (p := p) (s := (0, bitL nr - 1, MI ra)) (by rw [hSd] at h; exact h) (np - p)
            rw [show p + (np - p) = np by omega] at z
            rw [hSd]
            show (lrS (ML 87) g np nr cnt np (0, bitL nr - 1, MI ra)).2.2 = _
            rw [z]
        have hend : p = np ∨ ¬ (S p).1 < cnt → ∃ g, isBits g nr ∧ some (Value.int (nI cnt)) = some (.int (nI (lrR (ML 87) g np nr (MI ra)).1)) ∧ sr MI ra (S p).2.2 = sr MI ra (lrR (ML 87) g np nr (MI ra)).2 ∧ sr ML 88 g0 = sr ML 88 g ∧ MR = MR := fun h => ⟨g, hg, by rw [hres], by rw [hres, hfin h], by rw [hg0], rfl⟩
        refine r_iload 0 rfl dX4_leastRow_45 ?_
        refine r_aload_n 4 rfl dX4_leastRow_47 ?_
        refine r_geti dX4_leastRow_48 fl_X4_24 rfl ?_
        refine r_icmpge (tgt := 140) dX4_leastRow_51 (by decide) (fun zh51 => ?_) (fun zh51 => ?_)
        · refine r_iload 2 rfl dX4_leastRow_140 ?_
          exact r_iret hG dX4_leastRow_142 (hg0 ▸ hend (by first | (right; intro q; exact absurd (geL (k := cnt) (by omega) (by omega) zh58) (by omega)) | (left; rw [hW1] at zh51; have := geL (k := np) (by omega) (by omega) zh51; omega)))
        · rw [hW1] at zh51
          have hlt : p < np := ltL (by omega) zh51
          refine r_iload 1 rfl dX4_leastRow_54 ?_
          refine r_iload 2 rfl dX4_leastRow_56 ?_
          refine r_icmpge (tgt := 140) dX4_leastRow_58 (by decide) (fun zh58 => ?_) (fun zh58 => ?_)
          · refine r_iload 2 rfl dX4_leastRow_140 ?_
            exact r_iret hG dX4_leastRow_142 (hg0 ▸ hend (by first | (right; intro q; exact absurd (geL (k := cnt) (by omega) (by omega) zh58) (by omega)) | (left; rw [hW1] at zh51; have := geL (k := np) (by omega) (by omega) zh51; omega)))
          · have hic : (S p).1 < cnt := ltL (by omega) zh58
            refine r_iload 2 rfl dX4_leastRow_61 ?_
            refine r_iconst (v := 5) rfl dX4_leastRow_63 ?_
            refine r_icmpgt (tgt := 140) dX4_leastRow_64 (by decide) (fun zh64 => ?_) (fun zh64 => ?_)
            · exact absurd zh64 (fun q => absurd ((nI_ltI (a := 5) (b := cnt) (by decide) (by omega)).mp q) (by omega))
            refine r_aload_n 4 rfl dX4_leastRow_67 ?_
            refine r_iload 0 rfl dX4_leastRow_68 ?_
            refine r_Vf [.int _] dX4_leastRow_70 lk_X4_27 mb_X4_heldBy in_X4_heldBy se_X4_heldBy rfl (hheld _ _) rfl rfl rfl (Nat.le_of_ble_eq_true rfl) (rfl) ?_
            refine r_lload_n 3 rfl dX4_leastRow_73 ?_
            refine r_land dX4_leastRow_74 ?_
            refine r_lconst (v := 0) rfl dX4_leastRow_75 ?_
            refine r_lcmp dX4_leastRow_76 ?_
            refine r_ifeq (tgt := 134) dX4_leastRow_77 (by decide) (fun zh77 => ?_) (fun zh77 => ?_)
            · try rw [lcmp_eq, heldV_nI (by omega)] at zh77
              refine r_iinc (v := (nI (p + 1))) (ls2 := [(6, .int (nI (p + 1))), (5, .int (nI (S p).1)), (4, .int (nI cnt)), (2, .long (S p).2.1), (0, .ref 86), (1, .ref ra)]) 0 dX4_leastRow_134 rfl (x_inc p) (by decide) rfl ?_
              refine r_goto (tgt := 45) dX4_leastRow_137 (by decide) ?_
              have q := ih hlt
              first
                | (have hs1 := hSs true (by simp_all)
                   rw [if_pos rfl] at hs1
                   rw [hs1] at q
                   obtain rfl : zv130 = (S p).2.1 &&& (ML 87 p ^^^ -1) := by rw [ze130, heldV_nI (by omega)]
                   refine r_mem ?_ rfl rfl (r_sub [0, 1, 2, 3, 4, 5] rfl q)
                   unfold placeM
                   rw [if_pos (inR_t.mp (inR_nI (N := 5) (show (S p).1 < 5 by omega) (by decide))), nI_clamp (by omega)]
                   funext b j
                   simp only [u2, sr, up]
                   grind)
                | (have hs0 := hSs false (by simp_all)
                   rw [if_neg (by decide)] at hs0
                   rw [hs0] at q
                   exact r_sub [0, 1, 2, 3, 4, 5] rfl q)
            · rw [lcmp_eq, heldV_nI (by omega)] at zh77
              have hrec : Cf X yX4_canHold cX4_canHold 10 (some .boolean) (3 + (cnt - (S p).1 - 1)) [.ref 86, .long ((S p).2.1 &&& (heldV (ML 87) (nI p) ^^^ -1)), .int (nI cnt - nI (S p).1 - 1), .int (nI p + 1)] n SH (sr MI ra (S p).2.2) (sr ML 88 g) MR (some (.int (if chV (ML 87) g np nr (cnt - (S p).1 - 1) ((S p).2.1 &&& (ML 87 p ^^^ -1)) (p + 1) = true then 1 else 0))) (sr MI ra (S p).2.2) (sr ML 88 g) MR := by
                rw [heldV_nI (by omega), pk_sub (by omega), nI_1, show nI (cnt - (S p).1) - 1 = nI (cnt - (S p).1 - 1) from by have z := nI_pred (cnt - (S p).1 - 1); rw [show cnt - (S p).1 - 1 + 1 = cnt - (S p).1 by omega] at z; exact z]
                exact hcan _ hW _ (by omega) _ _ (by omega)
              refine r_aload_n 4 rfl dX4_leastRow_80 ?_
              refine r_lload_n 3 rfl dX4_leastRow_81 ?_
              refine r_aload_n 4 rfl dX4_leastRow_82 ?_
              refine r_iload 0 rfl dX4_leastRow_83 ?_
              refine r_Vf [.int _] dX4_leastRow_85 lk_X4_27 mb_X4_heldBy in_X4_heldBy se_X4_heldBy rfl (hheld _ _) rfl rfl rfl (Nat.le_of_ble_eq_true rfl) (rfl) ?_
              refine r_ldc2 kl_X4_42 dX4_leastRow_88 ?_
              refine r_lxor dX4_leastRow_91 ?_
              refine r_land dX4_leastRow_92 ?_
              refine r_iload 2 rfl dX4_leastRow_93 ?_
              refine r_iload 1 rfl dX4_leastRow_95 ?_
              refine r_isub dX4_leastRow_97 ?_
              refine r_iconst (v := 1) rfl dX4_leastRow_98 ?_
              refine r_isub dX4_leastRow_99 ?_
              refine r_iload 0 rfl dX4_leastRow_100 ?_
              refine r_iconst (v := 1) rfl dX4_leastRow_102 ?_
              refine r_iadd dX4_leastRow_103 ?_
              refine r_Vf [.long _, .int _, .int _] dX4_leastRow_104 lk_X4_38 mb_X4_canHold in_X4_canHold se_X4_canHold rfl (hrec) rfl rfl rfl (Nat.le_of_ble_eq_true rfl) (x_fitD (by omega) (by decide)) ?_
              refine r_ifeq (tgt := 134) dX4_leastRow_107 (by decide) (fun zh107 => ?_) (fun zh107 => ?_)
              · try rw [lcmp_eq, heldV_nI (by omega)] at zh77
                refine r_iinc (v := (nI (p + 1))) (ls2 := [(6, .int (nI (p + 1))), (5, .int (nI (S p).1)), (4, .int (nI cnt)), (2, .long (S p).2.1), (0, .ref 86), (1, .ref ra)]) 0 dX4_leastRow_134 rfl (x_inc p) (by decide) rfl ?_
                refine r_goto (tgt := 45) dX4_leastRow_137 (by decide) ?_
                have q := ih hlt
                first
                  | (have hs1 := hSs true (by simp_all)
                     rw [if_pos rfl] at hs1
                     rw [hs1] at q
                     obtain rfl : zv130 = (S p).2.1 &&& (ML 87 p ^^^ -1) := by rw [ze130, heldV_nI (by omega)]
                     refine r_mem ?_ rfl rfl (r_sub [0, 1, 2, 3, 4, 5] rfl q)
                     unfold placeM
                     rw [if_pos (inR_t.mp (inR_nI (N := 5) (show (S p).1 < 5 by omega) (by decide))), nI_clamp (by omega)]
                     funext b j
                     simp only [u2, sr, up]
                     grind)
                  | (have hs0 := hSs false (by simp_all)
                     rw [if_neg (by decide)] at hs0
                     rw [hs0] at q
                     exact r_sub [0, 1, 2, 3, 4, 5] rfl q)
              · refine r_aload_n 5 rfl dX4_leastRow_110 ?_
                refine r_iload 1 rfl dX4_leastRow_111 ?_
                refine r_iload 0 rfl dX4_leastRow_113 ?_
                refine r_Sn [.ref _, .int _, .int _] dX4_leastRow_115 lk_X4_44 mb_X10_place sc_X10_place rfl (c_X10_place (N := 5) hra (by decide)) rfl (Nat.le_of_ble_eq_true rfl) (rfl) ?_
                refine r_lload_n 3 rfl dX4_leastRow_118 ?_
                refine r_aload_n 4 rfl dX4_leastRow_119 ?_
                refine r_iload 0 rfl dX4_leastRow_120 ?_
                refine r_Vf [.int _] dX4_leastRow_122 lk_X4_27 mb_X4_heldBy in_X4_heldBy se_X4_heldBy rfl (hheld _ _) rfl rfl rfl (Nat.le_of_ble_eq_true rfl) (rfl) ?_
                refine r_ldc2 kl_X4_42 dX4_leastRow_125 ?_
                refine r_lxor dX4_leastRow_128 ?_
                refine r_land dX4_leastRow_129 ?_
                refine r_nml (fun zv130 ze130 => ?_)
                refine r_lstore_n (ls2 := [(2, .long zv130), (6, .int (nI p)), (5, .int (nI (S p).1)), (4, .int (nI cnt)), (0, .ref 86), (1, .ref ra)]) dX4_leastRow_130 (by decide) rfl ?_
                refine r_iinc (v := (nI ((S p).1 + 1))) (ls2 := [(5, .int (nI ((S p).1 + 1))), (2, .long zv130), (6, .int (nI p)), (4, .int (nI cnt)), (0, .ref 86), (1, .ref ra)]) 2 dX4_leastRow_131 rfl (x_inc _) (by decide) rfl ?_
                try rw [lcmp_eq, heldV_nI (by omega)] at zh77
                refine r_iinc (v := (nI (p + 1))) (ls2 := [(6, .int (nI (p + 1))), (5, .int (nI ((S p).1 + 1))), (2, .long zv130), (4, .int (nI cnt)), (0, .ref 86), (1, .ref ra)]) 2 dX4_leastRow_134 rfl (x_inc p) (by decide) rfl ?_
                refine r_goto (tgt := 45) dX4_leastRow_137 (by decide) ?_
                have q := ih hlt
                first
                  | (have hs1 := hSs true (by simp_all)
                     rw [if_pos rfl] at hs1
                     rw [hs1] at q
                     obtain rfl : zv130 = (S p).2.1 &&& (ML 87 p ^^^ -1) := by rw [ze130, heldV_nI (by omega)]
                     refine r_mem ?_ rfl rfl (r_sub [0, 1, 3, 2, 4, 5] rfl q)
                     unfold placeM
                     rw [if_pos (inR_t.mp (inR_nI (N := 5) (show (S p).1 < 5 by omega) (by decide))), nI_clamp (by omega)]
                     funext b j
                     simp only [u2, sr, up]
                     grind)
                  | (have hs0 := hSs false (by simp_all)
                     rw [if_neg (by decide)] at hs0
                     rw [hs0] at q
                     exact r_sub [0, 1, 3, 2, 4, 5] rfl q)
      · simp only [hc5, if_false] at hres ⊢
        intro p hpn
        have hend : ∃ g, isBits g nr ∧ some (Value.int (nI cnt)) = some (.int (nI (lrR (ML 87) g np nr (MI ra)).1)) ∧ MI = sr MI ra (lrR (ML 87) g np nr (MI ra)).2 ∧ sr ML 88 g0 = sr ML 88 g ∧ MR = MR := ⟨g, hg, by rw [hres], by rw [hres, sr_id], by rw [hg0], rfl⟩
        refine r_iload 0 rfl dX4_leastRow_45 ?_
        refine r_aload_n 4 rfl dX4_leastRow_47 ?_
        refine r_geti dX4_leastRow_48 fl_X4_24 rfl ?_
        refine r_icmpge (tgt := 140) dX4_leastRow_51 (by decide) (fun zh51 => ?_) (fun zh51 => ?_)
        · refine r_iload 2 rfl dX4_leastRow_140 ?_
          exact r_iret hG dX4_leastRow_142 (hg0 ▸ hend)
        · refine r_iload 1 rfl dX4_leastRow_54 ?_
          refine r_iload 2 rfl dX4_leastRow_56 ?_
          refine r_icmpge (tgt := 140) dX4_leastRow_58 (by decide) (fun zh58 => ?_) (fun zh58 => ?_)
          · refine r_iload 2 rfl dX4_leastRow_140 ?_
            exact r_iret hG dX4_leastRow_142 (hg0 ▸ hend)
          · refine r_iload 2 rfl dX4_leastRow_61 ?_
            refine r_iconst (v := 5) rfl dX4_leastRow_63 ?_
            refine r_icmpgt (tgt := 140) dX4_leastRow_64 (by decide) (fun zh64 => ?_) (fun zh64 => ?_)
            rotate_left
            · exact absurd zh64 (fun q => q (nI_lt (show 5 < cnt by omega) (by omega)))
            refine r_iload 2 rfl dX4_leastRow_140 ?_
            exact r_iret hG dX4_leastRow_142 (hg0 ▸ hend)
    have l1 : ∀ c, c ≤ 6 → (∀ k, k < c → f k = false) → RW X G RX4 cX4_leastRow 7 (x_rm 9 0 0) n SH MI (sr ML 88 g) MR 0 0 16 [(4, .int (nI c)), (2, .long (bitL nr - 1)), (0, .ref 86), (1, .ref ra)] [] := by
      refine bwd (fun c hc ih hno => ?_)
      have goOn : cnt = c → RW X G RX4 cX4_leastRow 7 (x_rm 9 0 0) n SH MI (sr ML 88 g) MR 0 0 45 [(6, .int 0), (5, .int 0), (4, .int (nI c)), (2, .long (bitL nr - 1)), (0, .ref 86), (1, .ref ra)] [] := fun e => by
        have q := l2 (by omega) 0 (by omega)
        have hS0 : S 0 = (0, bitL nr - 1, MI ra) := by rw [hSd]; rfl
        simp only [hS0, ite_self, sr_id] at q
        rw [e] at q
        exact q
      refine r_iload 0 rfl dX4_leastRow_16 ?_
      refine r_iconst (v := 5) rfl dX4_leastRow_18 ?_
      refine r_icmpgt (tgt := 39) dX4_leastRow_19 (by decide) (fun zh19 => ?_) (fun zh19 => ?_)
      · refine r_iconst (v := 0) rfl dX4_leastRow_39 ?_
        refine r_istore (ls2 := [(5, .int 0), (4, .int (nI c)), (2, .long (bitL nr - 1)), (0, .ref 86), (1, .ref ra)]) dX4_leastRow_40 (by decide) rfl ?_
        refine r_iconst (v := 0) rfl dX4_leastRow_42 ?_
        refine r_istore (ls2 := [(6, .int 0), (5, .int 0), (4, .int (nI c)), (2, .long (bitL nr - 1)), (0, .ref 86), (1, .ref ra)]) dX4_leastRow_43 (by decide) rfl ?_
        first
          | (have hc5 : c ≤ 5 := hc5; exact r_sub [0, 1, 2, 3, 4, 5] rfl (goOn (hcnt.trans (lrN_stop hc5 (by rw [hf]; simp_all) hno))))
          | (have h9 := (nI_ltI (a := 5) (b := c) (by decide) (by omega)).mp zh19; obtain rfl : c = 6 := by omega
             exact r_sub [0, 1, 2, 3, 4, 5] rfl (goOn (hcnt.trans (lrN_none hno))))
      · have hc5 : c ≤ 5 := by
          rcases Nat.lt_or_ge 5 c with z | z
          · exact absurd (nI_lt z (by omega)) zh19
          · exact z
        refine r_aload_n 2 rfl dX4_leastRow_22 ?_
        refine r_lload_n 1 rfl dX4_leastRow_23 ?_
        refine r_iload 0 rfl dX4_leastRow_24 ?_
        refine r_iconst (v := 0) rfl dX4_leastRow_26 ?_
        refine r_Vf [.long _, .int _, .int _] dX4_leastRow_27 lk_X4_38 mb_X4_canHold in_X4_canHold se_X4_canHold rfl (hcan MI rfl c hc5 _ 0 (by omega)) rfl rfl rfl (Nat.le_of_ble_eq_true rfl) (x_fitD (by omega) (by decide)) ?_
        refine r_ifne (tgt := 39) dX4_leastRow_30 (by decide) (fun zh30 => ?_) (fun zh30 => ?_)
        · refine r_iconst (v := 0) rfl dX4_leastRow_39 ?_
          refine r_istore (ls2 := [(5, .int 0), (4, .int (nI c)), (2, .long (bitL nr - 1)), (0, .ref 86), (1, .ref ra)]) dX4_leastRow_40 (by decide) rfl ?_
          refine r_iconst (v := 0) rfl dX4_leastRow_42 ?_
          refine r_istore (ls2 := [(6, .int 0), (5, .int 0), (4, .int (nI c)), (2, .long (bitL nr - 1)), (0, .ref 86), (1, .ref ra)]) dX4_leastRow_43 (by decide) rfl ?_
          first
            | (have hc5 : c ≤ 5 := hc5; exact r_sub [0, 1, 2, 3, 4, 5] rfl (goOn (hcnt.trans (lrN_stop hc5 (by rw [hf]; simp_all) hno))))
            | (have h9 := (nI_ltI (a := 5) (b := c) (by decide) (by omega)).mp zh19; obtain rfl : c = 6 := by omega
               exact r_sub [0, 1, 2, 3, 4, 5] rfl (goOn (hcnt.trans (lrN_none hno))))
        · refine r_iinc (v := (nI (c + 1))) (ls2 := [(4, .int (nI (c + 1))), (2, .long (bitL nr - 1)), (0, .ref 86), (1, .ref ra)]) 0 dX4_leastRow_33 rfl (x_inc c) (by decide) rfl ?_
          refine r_goto (tgt := 16) dX4_leastRow_36 (by decide) ?_
          refine r_sub [0, 1, 2, 3] rfl (ih (by omega) (fun k hk => ?_))
          rcases Nat.lt_or_ge k c with z | z
          · exact hno k z
          · obtain rfl : k = c := by omega
            rw [hf]
            simp_all
    refine r_lconst (v := 1) rfl dX4_leastRow_4 ?_
    refine r_aload_n 0 rfl dX4_leastRow_5 ?_
    refine r_geti dX4_leastRow_6 fl_X4_20 rfl ?_
    refine r_lshl dX4_leastRow_9 ?_
    refine r_lconst (v := 1) rfl dX4_leastRow_10 ?_
    refine r_lsub dX4_leastRow_11 ?_
    refine r_nml (fun zv12 ze12 => ?_)
    refine r_lstore_n (ls2 := [(2, .long zv12), (0, .ref 86), (1, .ref ra)]) dX4_leastRow_12 (by decide) rfl ?_
    refine r_iconst (v := 0) rfl dX4_leastRow_13 ?_
    refine r_istore (ls2 := [(4, .int 0), (2, .long zv12), (0, .ref 86), (1, .ref ra)]) dX4_leastRow_14 (by decide) rfl ?_
    obtain rfl : zv12 = bitL nr - 1 := by rw [ze12, hq]; rfl
    exact r_sub [0, 1, 2, 3] rfl (l1 0 (by omega) (fun k hk => absurd hk (Nat.not_lt_zero k)))
  refine r_aload_n 0 rfl dX4_leastRow_0 ?_
  refine r_Vg [] dX4_leastRow_1 lk_X4_35 mb_X4_sortByRarity in_X4_sortByRarity se_X4_sortByRarity rfl (c_X4_sortByRarity hM hn hp hr hq) rfl rfl rfl (Nat.le_of_ble_eq_true rfl) (rfl) (fun r A B C hz => ?_)
  obtain ⟨rfl, rfl, rfl, g, rfl, hg⟩ := hz
  exact main g hg
end finder3

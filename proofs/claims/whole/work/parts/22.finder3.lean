/-! Finder: sortByRarity, leastRow -/
def shf (g : Nat → Int64) (i s : Nat) : Nat → Int64 := fun j => if s < j ∧ j ≤ i then g (j - 1) else g j
theorem shf_bits {g : Nat → Int64} {i s : Nat} (hs : s ≤ i) (h : isBits g i) : isBits (up (shf g i s) s (bitL i)) (i + 1) := by
  refine ⟨fun j hj => ?_, fun q hq => ?_⟩
  · by_cases e : j = s
    · exact ⟨i, by omega, by simp [up, e]⟩
    · by_cases h2 : s < j
      · obtain ⟨q, h3, h4⟩ := h.1 (j - 1) (by omega)
        exact ⟨q, by omega, by simp only [up, e, if_false, shf]; rw [if_pos ⟨h2, by omega⟩, h4]⟩
      · obtain ⟨q, h3, h4⟩ := h.1 j (by omega)
        exact ⟨q, by omega, by simp only [up, e, if_false, shf]; rw [if_neg (fun z => h2 z.1), h4]⟩
  · by_cases e : q = i
    · exact ⟨s, by omega, by simp [up, e]⟩
    · obtain ⟨j, h3, h4⟩ := h.2 q (by omega)
      by_cases h2 : j < s
      · exact ⟨j, by omega, by simp only [up, shf]; rw [if_neg (by omega), if_neg (by omega), h4]⟩
      · exact ⟨j + 1, by omega, by simp only [up, shf]; rw [if_neg (by omega), if_pos ⟨by omega, by omega⟩]; exact h4⟩
/-- how many the fewest are; 6: more than 5 -/
def lrN (f : Nat → Bool) : Nat := ((List.range 6).find? f).getD 6
def lrS (H R : Nat → Int64) (np nr cnt : Nat) : Nat → Nat × Int64 × (Nat → Int32) → Nat × Int64 × (Nat → Int32)
  | 0, s => s
  | p + 1, s => if (lrS H R np nr cnt p s).1 < cnt ∧ ¬ H p &&& (lrS H R np nr cnt p s).2.1 = 0 ∧ chV H R np nr (cnt - (lrS H R np nr cnt p s).1 - 1) ((lrS H R np nr cnt p s).2.1 &&& (H p ^^^ -1)) (p + 1) = true then ((lrS H R np nr cnt p s).1 + 1, (lrS H R np nr cnt p s).2.1 &&& (H p ^^^ -1), up (lrS H R np nr cnt p s).2.2 (lrS H R np nr cnt p s).1 (nI p)) else lrS H R np nr cnt p s
theorem lrS_stop {H R : Nat → Int64} {np nr cnt p : Nat} {s : Nat × Int64 × (Nat → Int32)} (h : ¬ (lrS H R np nr cnt p s).1 < cnt) : ∀ j, lrS H R np nr cnt (p + j) s = lrS H R np nr cnt p s
  | 0 => rfl
  | j + 1 => by rw [show p + (j + 1) = (p + j) + 1 by omega, lrS, lrS_stop h j, if_neg (fun q => h q.1)]
theorem lrS_le {H R : Nat → Int64} {np nr cnt : Nat} {s : Nat × Int64 × (Nat → Int32)} (hs : s.1 ≤ cnt) : ∀ p, (lrS H R np nr cnt p s).1 ≤ cnt
  | 0 => hs
  | p + 1 => by
    have := lrS_le (H := H) (R := R) (np := np) (nr := nr) hs p
    rw [lrS]
    split
    · rename_i q; exact q.1
    · exact this
/-- leastRow: how many, and the row -/
def lrR (H R : Nat → Int64) (np nr : Nat) (row : Nat → Int32) : Nat × (Nat → Int32) :=
  (lrN (fun c => chV H R np nr c (bitL nr - 1) 0), if lrN (fun c => chV H R np nr c (bitL nr - 1) 0) ≤ 5 then (lrS H R np nr (lrN (fun c => chV H R np nr c (bitL nr - 1) 0)) np (0, bitL nr - 1, row)).2.2 else row)
section finder3
variable {X : xG} {n : Nat} {MI : Nat → Nat → Int32} {ML : Nat → Nat → Int64} {MR : Nat → Nat → Option Nat}
set_option maxRecDepth 100000 in
theorem c_X4_sortByRarity (hM : x_Lay MR) {np nr : Nat} (hn : np ≤ 240) (hp : MI 86 1 = nI np) (hr : nr ≤ 33) (hq : MI 86 2 = nI nr) : Ct X yX4_sortByRarity cX4_sortByRarity 6 none 3 0 0 [.ref 86] n SH MI ML MR n SH (fun r A B C => r = none ∧ A = MI ∧ C = MR ∧ ∃ g, B = sr ML 88 g ∧ isBits g nr) := by
  refine Ct_of (by decide) (Nat.le_of_ble_eq_true rfl) (fun G hG => ?_)
  have loop : ∀ i, i ≤ nr → ∀ g, isBits g i → RW X G RX4 cX4_sortByRarity 6 (x_rm 3 0 0) n SH MI (sr ML 88 g) MR 0 0 2 [(1, .int (nI i)), (0, .ref 86)] [] := by
    refine bwd (fun i hi ih g hg => ?_)
    have inner : i < nr → ∀ (c4 : Int32) u, u ≤ i → RW X G RX4 cX4_sortByRarity 6 (x_rm 3 0 0) n SH MI (sr ML 88 (shf g i (i - u))) MR 0 0 30 [(5, .int (nI (i - u))), (4, .int c4), (2, .long (bitL i)), (1, .int (nI i)), (0, .ref 86)] [] := by
      intro hlt c4
      refine bwd (fun u hu ihu => ?_)
      have e88 : ∀ g, sr ML 88 g 88 = g := fun g => sr_eq ML 88 g
      have hdn : u < i → nI (i - u) - 1 = nI (i - (u + 1)) := fun h => by have z := nI_pred (i - (u + 1)); rw [show i - (u + 1) + 1 = i - u by omega] at z; exact z
      refine r_iload 0 rfl dX4_sortByRarity_30 ?_
      refine r_ifle (tgt := 75) dX4_sortByRarity_32 (by decide) (fun zh32 => ?_) (fun zh32 => ?_)
      · refine r_aload_n 4 rfl dX4_sortByRarity_75 ?_
        refine r_getr dX4_sortByRarity_76 fl_X4_17 rfl (hM _ _ _ rfl) ?_
        refine r_iload 0 rfl dX4_sortByRarity_79 ?_
        refine r_lload_n 2 rfl dX4_sortByRarity_81 ?_
        refine r_last dX4_sortByRarity_82 rfl (vp_in_nI (show i - u < 33 by omega) (by decide)) ?_
        refine r_iinc (v := (nI (i + 1))) (ls2 := [(1, .int (nI (i + 1))), (5, .int (nI (i - u))), (4, .int c4), (2, .long (bitL i)), (0, .ref 86)]) 3 dX4_sortByRarity_83 rfl (x_inc i) (by decide) rfl ?_
        refine r_goto (tgt := 2) dX4_sortByRarity_86 (by decide) ?_
        refine r_mem rfl ?_ rfl (r_sub [0, 4] rfl (ih hlt _ (shf_bits (s := i - u) (by omega) hg)))
        rw [nI_clamp (by omega)]
        funext b j
        simp only [u2, sr, up]
        grind
      · have hui : u < i := by
          rcases Nat.lt_or_ge u i with z | z
          · exact z
          · exact absurd (show nI (i - u) ≤ 0 by rw [show i - u = 0 by omega]; decide) zh32
        refine r_aload_n 4 rfl dX4_sortByRarity_35 ?_
        refine r_aload_n 4 rfl dX4_sortByRarity_36 ?_
        refine r_getr dX4_sortByRarity_37 fl_X4_17 rfl (hM _ _ _ rfl) ?_
        refine r_iload 0 rfl dX4_sortByRarity_40 ?_
        refine r_iconst (v := 1) rfl dX4_sortByRarity_42 ?_
        refine r_isub dX4_sortByRarity_43 ?_
        refine r_lald dX4_sortByRarity_44 rfl (by rw [hdn hui]; exact vp_in_nI (show i - (u + 1) < 33 by omega) (by decide)) ?_
        refine r_Vf [.long _] dX4_sortByRarity_45 lk_X4_31 mb_X4_holdersOf in_X4_holdersOf se_X4_holdersOf rfl (c_X4_holdersOf hM hn hp) rfl rfl rfl (Nat.le_of_ble_eq_true rfl) (rfl) ?_
        refine r_iload 1 rfl dX4_sortByRarity_48 ?_
        refine r_icmple (tgt := 75) dX4_sortByRarity_50 (by decide) (fun zh50 => ?_) (fun zh50 => ?_)
        · refine r_aload_n 4 rfl dX4_sortByRarity_75 ?_
          refine r_getr dX4_sortByRarity_76 fl_X4_17 rfl (hM _ _ _ rfl) ?_
          refine r_iload 0 rfl dX4_sortByRarity_79 ?_
          refine r_lload_n 2 rfl dX4_sortByRarity_81 ?_
          refine r_last dX4_sortByRarity_82 rfl (vp_in_nI (show i - u < 33 by omega) (by decide)) ?_
          refine r_iinc (v := (nI (i + 1))) (ls2 := [(1, .int (nI (i + 1))), (5, .int (nI (i - u))), (4, .int c4), (2, .long (bitL i)), (0, .ref 86)]) 3 dX4_sortByRarity_83 rfl (x_inc i) (by decide) rfl ?_
          refine r_goto (tgt := 2) dX4_sortByRarity_86 (by decide) ?_
          refine r_mem rfl ?_ rfl (r_sub [0, 4] rfl (ih hlt _ (shf_bits (s := i - u) (by omega) hg)))
          rw [nI_clamp (by omega)]
          funext b j
          simp only [u2, sr, up]
          grind
        · refine r_aload_n 4 rfl dX4_sortByRarity_53 ?_
          refine r_getr dX4_sortByRarity_54 fl_X4_17 rfl (hM _ _ _ rfl) ?_
          refine r_iload 0 rfl dX4_sortByRarity_57 ?_
          refine r_aload_n 4 rfl dX4_sortByRarity_59 ?_
          refine r_getr dX4_sortByRarity_60 fl_X4_17 rfl (hM _ _ _ rfl) ?_
          refine r_iload 0 rfl dX4_sortByRarity_63 ?_
          refine r_iconst (v := 1) rfl dX4_sortByRarity_65 ?_
          refine r_isub dX4_sortByRarity_66 ?_
          refine r_lald dX4_sortByRarity_67 rfl (by rw [hdn hui]; exact vp_in_nI (show i - (u + 1) < 33 by omega) (by decide)) ?_
          refine r_last dX4_sortByRarity_68 rfl (vp_in_nI (show i - u < 33 by omega) (by decide)) ?_
          refine r_iinc (v := (nI (i - (u + 1)))) (ls2 := [(5, .int (nI (i - (u + 1)))), (4, .int c4), (2, .long (bitL i)), (1, .int (nI i)), (0, .ref 86)]) 0 dX4_sortByRarity_69 rfl (by have z := x_dec (i - (u + 1)); rw [show i - (u + 1) + 1 = i - u by omega] at z; exact z) (by decide) rfl ?_
          refine r_goto (tgt := 30) dX4_sortByRarity_72 (by decide) ?_
          refine r_mem rfl ?_ rfl (r_sub [0, 1, 2, 3, 4] rfl (ihu hui))
          rw [hdn hui, nI_clamp (by omega), nI_clamp (by omega), e88]
          funext b j
          simp only [u2, sr, shf]
          grind
    refine r_iload_n 0 rfl dX4_sortByRarity_2 ?_
    refine r_aload_n 1 rfl dX4_sortByRarity_3 ?_
    refine r_geti dX4_sortByRarity_4 fl_X4_20 rfl ?_
    refine r_icmpge (tgt := 89) dX4_sortByRarity_7 (by decide) (fun zh7 => ?_) (fun zh7 => ?_)
    · rw [hq] at zh7
      obtain rfl : i = nr := by have := geL (k := nr) (by omega) (by omega) zh7; omega
      exact r_vret hG dX4_sortByRarity_89 (⟨rfl, rfl, rfl, g, rfl, hg⟩)
    · rw [hq] at zh7
      have hlt : i < nr := ltL (by omega) zh7
      refine r_iload_n 0 rfl dX4_sortByRarity_10 ?_
      refine r_bipush (v := 33) rfl dX4_sortByRarity_11 ?_
      refine r_icmpge (tgt := 89) dX4_sortByRarity_13 (by decide) (fun zh13 => ?_) (fun zh13 => ?_)
      · exact absurd zh13 (fun q => absurd (geL (k := 33) (by decide) (by omega) q) (by omega))
      refine r_lconst (v := 1) rfl dX4_sortByRarity_16 ?_
      refine r_iload_n 0 rfl dX4_sortByRarity_17 ?_
      refine r_lshl dX4_sortByRarity_18 ?_
      refine r_lstore_n (ls2 := [(2, .long (bitL i)), (1, .int (nI i)), (0, .ref 86)]) dX4_sortByRarity_19 (by decide) rfl ?_
      refine r_aload_n 2 rfl dX4_sortByRarity_20 ?_
      refine r_lload_n 0 rfl dX4_sortByRarity_21 ?_
      refine r_Vf [.long _] dX4_sortByRarity_22 lk_X4_31 mb_X4_holdersOf in_X4_holdersOf se_X4_holdersOf rfl (c_X4_holdersOf hM hn hp) rfl rfl rfl (Nat.le_of_ble_eq_true rfl) (rfl) ?_
      refine r_nmi (fun zv25 ze25 => ?_)
      refine r_istore (ls2 := [(4, .int zv25), (2, .long (bitL i)), (1, .int (nI i)), (0, .ref 86)]) dX4_sortByRarity_25 (by decide) rfl ?_
      refine r_iload_n 2 rfl dX4_sortByRarity_27 ?_
      refine r_istore (ls2 := [(5, .int (nI i)), (4, .int zv25), (2, .long (bitL i)), (1, .int (nI i)), (0, .ref 86)]) dX4_sortByRarity_28 (by decide) rfl ?_
      have q := inner hlt zv25 0 (by omega)
      refine r_mem rfl ?_ rfl (r_sub [0, 1, 2, 3, 4] rfl q)
      funext b j
      simp only [sr, shf]
      grind
  refine r_iconst (v := 0) rfl dX4_sortByRarity_0 ?_
  refine r_istore_n (ls2 := [(1, .int 0), (0, .ref 86)]) dX4_sortByRarity_1 (by decide) rfl ?_
  refine r_mem rfl (sr_id ML 88).symm rfl (loop 0 (by omega) (ML 88) ⟨fun j h => absurd h (by omega), fun j h => absurd h (by omega)⟩)
end finder3

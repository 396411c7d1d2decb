/-! CUBES as digits, as points -/
def cin (c p : Nat) : Bool := (List.range 6).all (fun k => decide (dgt c k = 2) || decide (dgt c k = p / 2 ^ k % 2))
theorem cin_iff {c p : Nat} : cin c p = true ↔ ∀ k, k < 6 → dgt c k = 2 ∨ dgt c k = p / 2 ^ k % 2 := by
  unfold cin
  rw [List.all_eq_true]
  constructor
  · intro h k hk
    have := h k (List.mem_range.mpr hk)
    rw [Bool.or_eq_true, decide_eq_true_eq, decide_eq_true_eq] at this
    exact this
  · intro h k hk
    rw [Bool.or_eq_true, decide_eq_true_eq, decide_eq_true_eq]
    exact h k (List.mem_range.mp hk)
/-- a table of the points of all CUBES -/
def tabOK (B : Nat → Int64) : Prop := ∀ c, c < 729 → ∀ p, p < 64 → gb (B c) p = cin c p
theorem tab_eq {B D : Nat → Int64} (h : tabOK B) (g : tabOK D) {c : Nat} (hc : c < 729) : B c = D c := gb_ext (fun p hp => (h c hc p hp).trans (g c hc p hp).symm)
def pt6 (x : Nat → Nat) : Nat := x 0 + 2 * x 1 + 4 * x 2 + 8 * x 3 + 16 * x 4 + 32 * x 5
theorem k6 {k : Nat} (hk : k < 6) : k = 0 ∨ k = 1 ∨ k = 2 ∨ k = 3 ∨ k = 4 ∨ k = 5 := by omega
theorem pt6_bit {x : Nat → Nat} (h : ∀ k, k < 6 → x k < 2) {k : Nat} (hk : k < 6) : pt6 x / 2 ^ k % 2 = x k := by
  have h0 := h 0 (by decide)
  have h1 := h 1 (by decide)
  have h2 := h 2 (by decide)
  have h3 := h 3 (by decide)
  have h4 := h 4 (by decide)
  have h5 := h 5 (by decide)
  unfold pt6
  rcases k6 hk with rfl | rfl | rfl | rfl | rfl | rfl
  · rw [show 2 ^ 0 = 1 from rfl]; omega
  · rw [show 2 ^ 1 = 2 from rfl]; omega
  · rw [show 2 ^ 2 = 4 from rfl]; omega
  · rw [show 2 ^ 3 = 8 from rfl]; omega
  · rw [show 2 ^ 4 = 16 from rfl]; omega
  · rw [show 2 ^ 5 = 32 from rfl]; omega
theorem pt6_lt {x : Nat → Nat} (h : ∀ k, k < 6 → x k < 2) : pt6 x < 64 := by
  have h0 := h 0 (by decide)
  have h1 := h 1 (by decide)
  have h2 := h 2 (by decide)
  have h3 := h 3 (by decide)
  have h4 := h 4 (by decide)
  have h5 := h 5 (by decide)
  unfold pt6
  omega
theorem dgt_sum {c : Nat} (hc : c < 729) : c = 243 * dgt c 0 + 81 * dgt c 1 + 27 * dgt c 2 + 9 * dgt c 3 + 3 * dgt c 4 + dgt c 5 := by
  unfold dgt
  rw [show 3 ^ (5 - 0) = 243 from rfl, show 3 ^ (5 - 1) = 81 from rfl, show 3 ^ (5 - 2) = 27 from rfl, show 3 ^ (5 - 3) = 9 from rfl, show 3 ^ (5 - 4) = 3 from rfl, show 3 ^ (5 - 5) = 1 from rfl]
  omega
/-- one CUBE within another, by digits -/
def subD (c o : Nat) : Prop := ∀ k, k < 6 → dgt o k = 2 ∨ dgt o k = dgt c k
theorem subD_rf (c : Nat) : subD c c := fun _ _ => Or.inr rfl
theorem subD_tr {a b c : Nat} (h : subD a b) (g : subD b c) : subD a c := fun k hk => by
  rcases g k hk with z | z
  · exact Or.inl z
  · rcases h k hk with y | y
    · exact Or.inl (z.trans y)
    · exact Or.inr (z.trans y)
theorem subD_le {c o : Nat} (hc : c < 729) (ho : o < 729) (h : subD c o) : c ≤ o := by
  have e1 := dgt_sum hc
  have e2 := dgt_sum ho
  have le : ∀ k, k < 6 → dgt c k ≤ dgt o k := fun k hk => by
    have := dgt_lt c k
    rcases h k hk with z | z <;> omega
  have l0 := le 0 (by decide)
  have l1 := le 1 (by decide)
  have l2 := le 2 (by decide)
  have l3 := le 3 (by decide)
  have l4 := le 4 (by decide)
  have l5 := le 5 (by decide)
  omega
theorem lies_iff {B : Nat → Int64} (hB : tabOK B) {c o : Nat} (hc : c < 729) (ho : o < 729) : B c &&& (B o ^^^ -1) = 0 ↔ subD c o := by
  rw [sub_iff]
  constructor
  · intro h k hk
    have wit : ∀ e, e < 2 → dgt o k = 2 ∨ dgt o k = (if dgt c k = 2 then e else dgt c k) := fun e he => by
      have hx : ∀ j, j < 6 → (if dgt c j = 2 then e else dgt c j) < 2 := fun j _ => by
        have := dgt_lt c j
        split <;> omega
      have hb := fun j hj => pt6_bit hx (k := j) hj
      have hl := pt6_lt hx
      have hin : cin c (pt6 (fun j => if dgt c j = 2 then e else dgt c j)) = true := cin_iff.mpr (fun j hj => by
        rw [hb j hj]
        by_cases z : dgt c j = 2
        · exact Or.inl z
        · rw [if_neg z]; exact Or.inr rfl)
      have := h _ hl (by rw [hB c hc _ hl]; exact hin)
      rw [hB o ho _ hl, cin_iff] at this
      have := this k hk
      rw [hb k hk] at this
      exact this
    by_cases z : dgt c k = 2
    · have w0 := wit 0 (by decide)
      have w1 := wit 1 (by decide)
      rw [if_pos z] at w0 w1
      rcases w0 with y | y
      · exact Or.inl y
      · rcases w1 with x | x
        · exact Or.inl x
        · omega
    · have w0 := wit 0 (by decide)
      rw [if_neg z] at w0
      exact w0
  · intro h p hp hg
    rw [hB c hc p hp, cin_iff] at hg
    rw [hB o ho p hp, cin_iff]
    intro k hk
    rcases h k hk with z | z
    · exact Or.inl z
    · rcases hg k hk with y | y
      · exact Or.inl (z.trans y)
      · exact Or.inr (z.trans y)
/-- two CUBES without a common point -/
theorem meet_iff {B : Nat → Int64} (hB : tabOK B) {c d : Nat} (hc : c < 729) (hd : d < 729) : B c &&& B d = 0 ↔ ∃ k, k < 6 ∧ ¬ dgt c k = 2 ∧ ¬ dgt d k = 2 ∧ ¬ dgt d k = dgt c k := by
  rw [gb_eq0]
  constructor
  · intro h
    apply Classical.byContradiction
    intro hn
    have hx : ∀ j, j < 6 → (if dgt c j = 2 then (if dgt d j = 2 then 0 else dgt d j) else dgt c j) < 2 := fun j _ => by
      have := dgt_lt c j
      have := dgt_lt d j
      split
      · split <;> omega
      · omega
    have hb := fun j hj => pt6_bit hx (k := j) hj
    have hl := pt6_lt hx
    have := h _ hl
    rw [gb_and, hB c hc _ hl, hB d hd _ hl] at this
    have i1 : cin c (pt6 (fun j => if dgt c j = 2 then (if dgt d j = 2 then 0 else dgt d j) else dgt c j)) = true := cin_iff.mpr (fun j hj => by
      rw [hb j hj]
      by_cases z : dgt c j = 2
      · exact Or.inl z
      · rw [if_neg z]; exact Or.inr rfl)
    have i2 : cin d (pt6 (fun j => if dgt c j = 2 then (if dgt d j = 2 then 0 else dgt d j) else dgt c j)) = true := cin_iff.mpr (fun j hj => by
      rw [hb j hj]
      by_cases z : dgt d j = 2
      · exact Or.inl z
      · by_cases y : dgt c j = 2
        · rw [if_pos y, if_neg z]; exact Or.inr rfl
        · rw [if_neg y]
          refine Or.inr (Classical.byContradiction fun x => hn ⟨j, hj, y, z, x⟩))
    rw [i1, i2] at this
    exact absurd this (by decide)
  · intro ⟨k, hk, h1, h2, h3⟩ p hp
    rw [gb_and, hB c hc p hp, hB d hd p hp]
    cases z1 : cin c p
    · rfl
    · cases z2 : cin d p
      · rfl
      · have a1 := (cin_iff.mp z1 k hk).resolve_left h1
        have a2 := (cin_iff.mp z2 k hk).resolve_left h2
        exact absurd (a2.trans a1.symm) h3
/-! a product -/
def cfl (c d k : Nat) : Bool := decide (¬ dgt c k = 2 ∧ ¬ dgt d k = 2 ∧ ¬ dgt d k = dgt c k)
def ukn (c d k : Nat) : Bool := decide (¬ dgt c k = 2 ∧ dgt d k = 2)
theorem pdS_eq (c d : Nat) : ∀ m, pdS c d m = if (List.range m).any (cfl c d) = true then 0 else if (List.range m).any (ukn c d) = true then 2 else 1 := by
  intro m
  induction m with
  | zero => rfl
  | succ m ih =>
    have a1 : (List.range (m + 1)).any (cfl c d) = ((List.range m).any (cfl c d) || cfl c d m) := by
      rw [List.range_succ, List.any_append]; simp
    have a2 : (List.range (m + 1)).any (ukn c d) = ((List.range m).any (ukn c d) || ukn c d m) := by
      rw [List.range_succ, List.any_append]; simp
    rw [pdS, ih, a1, a2]
    cases h1 : (List.range m).any (cfl c d)
    · rw [if_neg Bool.false_ne_true, Bool.false_or]
      have hne : ¬ (if (List.range m).any (ukn c d) = true then 2 else 1) = 0 := by split <;> decide
      rw [if_neg hne]
      by_cases z1 : dgt c m = 2
      · have e1 : cfl c d m = false := decide_eq_false (fun y => y.1 z1)
        have e2 : ukn c d m = false := decide_eq_false (fun y => y.1 z1)
        rw [if_pos z1, e1, e2, Bool.or_false, if_neg Bool.false_ne_true]
      · rw [if_neg z1]
        by_cases z2 : dgt d m = 2
        · have e1 : cfl c d m = false := decide_eq_false (fun y => y.2.1 z2)
          have e2 : ukn c d m = true := decide_eq_true ⟨z1, z2⟩
          rw [if_pos z2, e1, e2, Bool.or_true, if_neg Bool.false_ne_true, if_pos rfl]
        · rw [if_neg z2]
          have e2 : ukn c d m = false := decide_eq_false (fun y => z2 y.2)
          by_cases z3 : dgt d m = dgt c m
          · have e1 : cfl c d m = false := decide_eq_false (fun y => y.2.2 z3)
            rw [if_pos z3, e1, e2, Bool.or_false, if_neg Bool.false_ne_true]
          · have e1 : cfl c d m = true := decide_eq_true ⟨z1, z2, z3⟩
            rw [if_neg z3, e1, if_pos rfl]
    · rw [if_pos rfl, if_pos rfl, Bool.true_or, if_pos rfl]
theorem prod_eq {B : Nat → Int64} (hB : tabOK B) {c d : Nat} (hc : c < 729) (hd : d < 729) : prodV (B c) (B d) = nI (pdS c d 6) := by
  unfold prodV
  have h1 : (B c &&& B d = 0) ↔ (List.range 6).any (cfl c d) = true := by
    rw [meet_iff hB hc hd, List.any_eq_true]
    constructor
    · intro ⟨k, hk, q⟩; exact ⟨k, List.mem_range.mpr hk, decide_eq_true q⟩
    · intro ⟨k, hk, q⟩; exact ⟨k, List.mem_range.mp hk, of_decide_eq_true q⟩
  rw [pdS_eq]
  by_cases z1 : (List.range 6).any (cfl c d) = true
  · rw [if_pos (h1.mpr z1), if_pos z1]; rfl
  · rw [if_neg (fun y => z1 (h1.mp y)), if_neg z1]
    have h2 : (B d &&& (B c ^^^ -1) = 0) ↔ ¬ (List.range 6).any (ukn c d) = true := by
      rw [lies_iff hB hd hc, List.any_eq_true]
      constructor
      · intro h ⟨k, hk, q⟩
        have q := of_decide_eq_true q
        rcases h k (List.mem_range.mp hk) with y | y
        · exact q.1 y
        · exact q.1 (y.trans q.2)
      · intro h k hk
        apply Classical.byContradiction
        intro hn
        have n1 : ¬ dgt c k = 2 := fun y => hn (Or.inl y)
        have n2 : ¬ dgt c k = dgt d k := fun y => hn (Or.inr y)
        by_cases y : dgt d k = 2
        · exact h ⟨k, List.mem_range.mpr hk, decide_eq_true ⟨n1, y⟩⟩
        · exact z1 (List.any_eq_true.mpr ⟨k, List.mem_range.mpr hk, decide_eq_true ⟨n1, y, fun x => n2 x.symm⟩⟩)
    by_cases z2 : (List.range 6).any (ukn c d) = true
    · rw [if_neg (fun y => h2.mp y z2), if_pos z2]; rfl
    · rw [if_pos (h2.mpr z2), if_neg z2]; rfl
theorem pdS_le (c d : Nat) (m : Nat) : pdS c d m ≤ 2 := by
  rw [pdS_eq]
  split
  · decide
  · split <;> decide
theorem eiN_le {a b : Nat} (ha : a ≤ 2) (hb : b ≤ 2) : eiN a b ≤ 2 := by
  unfold eiN
  split
  · decide
  · split <;> assumption
theorem str_eq {a b : Nat} (ha : a ≤ 2) (hb : b ≤ 2) : strongV (nI a) (nI b) = nI (eiN a b) := by
  have h : ∀ a, a < 3 → ∀ b, b < 3 → strongV (nI a) (nI b) = nI (eiN a b) := by decide +kernel
  exact h a (by omega) b (by omega)
theorem ptsV_nI {ML : Nat → Nat → Int64} {c : Nat} (hc : c < 729) : ptsV ML (nI c) = ML 58 c := by
  unfold ptsV
  rw [show inR (nI c) 729 = true from inR_nI (N := 729) hc (by decide), if_pos rfl, nI_clamp (by omega)]
/-- the CUBE of a point -/
theorem kp1 : ∀ p, p < 64 → ∀ j, j < 64 → cin (numC (nI p) 0 6).toNatClampNeg j = decide (p = j) := by decide +kernel
theorem kp2 : ∀ p, p < 64 → ∀ k, k < 6 → dgt (numC (nI p) 0 6).toNatClampNeg k < 2 := by decide +kernel
theorem ptL_tab {B : Nat → Int64} (hB : tabOK B) {p : Nat} (hp : p < 64) : ptL (nI p) = B (numC (nI p) 0 6).toNatClampNeg := by
  obtain ⟨m, hm, he⟩ := numC_in (nI p) 0
  have h1 := kp1 p hp
  rw [he, nI_clamp (by omega)] at h1 ⊢
  refine gb_ext (fun j hj => ?_)
  rw [hB m hm j hj, h1 j hj]
  exact gb_bitL p hp j hj
theorem pdS_pt {c d : Nat} (h : ∀ k, k < 6 → dgt d k < 2) : pdS c d 6 = 0 ∨ pdS c d 6 = 1 := by
  rw [pdS_eq]
  split
  · exact Or.inl rfl
  · rw [if_neg]
    · exact Or.inr rfl
    · intro z
      obtain ⟨k, hk, q⟩ := List.any_eq_true.mp z
      have := h k (List.mem_range.mp hk)
      have q := (of_decide_eq_true q).2
      omega
theorem eiN_01 {a b : Nat} (ha : a = 0 ∨ a = 1) (hb : b = 0 ∨ b = 1) : eiN a b = 0 ∨ eiN a b = 1 := by
  rcases ha with rfl | rfl <;> rcases hb with rfl | rfl <;> decide
/-! 240 chains -/
def chL : List (List Nat) := [[0, 2, 8, 170, 656], [1, 7, 25, 79, 241, 727], [3, 6, 24, 186, 672], [4, 5, 59, 545], [9, 11, 497, 503], [10, 16, 70, 232, 718], [12, 15, 17, 26, 80, 242, 728], [13, 14, 68, 71, 233, 719], [18, 20, 182, 668], [19, 181, 667], [21, 23, 77, 239, 725], [22, 184, 670], [27, 29, 56, 74, 236, 722], [28, 34, 52, 214, 700], [30, 33, 195, 213, 699], [31, 32, 35, 53, 215, 701], [36, 38, 47, 533], [37, 43, 44, 206, 692], [39, 42, 51, 78, 240, 726], [40, 41, 50, 212, 698], [45, 72, 234, 720], [46, 73, 235, 721], [48, 75, 237, 723], [49, 76, 238, 724], [54, 216, 702], [55, 217, 703], [57, 60, 62, 224, 710], [58, 61, 223, 709], [63, 69, 231, 717], [64, 65, 551], [66, 228, 714], [67, 229, 715], [81, 83, 101, 155, 641], [82, 88, 142, 628], [84, 87, 89, 143, 629], [85, 86, 167, 653], [90, 92, 98, 107, 188, 674], [91, 97, 151, 637], [93, 96, 105, 159, 645], [94, 95, 104, 185, 671], [99, 180, 666], [100, 154, 640], [102, 156, 642], [103, 106, 187, 673], [108, 110, 191, 677], [109, 115, 116, 197, 683], [111, 114, 141, 222, 708], [112, 113, 140, 221, 707], [117, 119, 125, 152, 638], [118, 124, 205, 691], [120, 123, 132, 134, 161, 647], [121, 122, 131, 158, 644], [126, 128, 209, 695], [127, 133, 160, 646], [129, 210, 696], [130, 616], [135, 153, 639], [136, 137, 218, 704], [138, 219, 705], [139, 157, 643], [144, 146, 227, 713], [145, 226, 712], [147, 150, 636], [148, 149, 230, 716], [162, 168, 654], [163, 164, 650], [165, 183, 669], [166, 169, 655], [171, 173, 659], [172, 178, 664], [174, 177, 663], [175, 176, 179, 665], [189, 207, 693], [190, 208, 694], [192, 194, 680], [193, 196, 682], [198, 204, 690], [199, 200, 686], [201, 203, 689], [202, 211, 697], [220, 706], [225, 711], [243, 245, 263, 506], [244, 250, 493, 511], [246, 249, 251, 413, 431], [247, 248, 410, 428], [252, 254, 308, 317, 560], [253, 259, 421], [255, 258, 260, 269, 323, 566], [256, 257, 266, 509], [261, 267, 321, 564], [262, 268, 322, 565], [264, 318, 561], [265, 319, 562], [270, 272, 290, 452], [271, 277, 304, 547], [273, 276, 278, 296, 458], [274, 275, 302, 305, 548], [279, 281, 287, 314, 557], [280, 286, 529], [282, 285, 312, 555], [283, 284, 311, 473], [288, 294, 456], [289, 295, 457], [291, 453], [292, 293, 320, 563], [297, 459], [298, 299, 461], [300, 303, 546], [301, 463], [306, 315, 558], [307, 316, 559], [309, 471], [310, 313, 556], [324, 326, 332, 386, 467], [325, 331, 349, 592], [327, 330, 384, 627], [328, 329, 347, 401, 482], [333, 335, 341, 395, 476], [334, 340, 394, 475], [336, 339, 348, 429], [337, 338, 392, 635], [342, 344, 350, 593], [343, 397, 478], [345, 426], [346, 427], [351, 353, 434, 440], [352, 358, 359, 377, 404, 485], [354, 357, 375, 402, 483], [355, 356, 437, 455], [360, 362, 371, 398, 479], [361, 367, 368, 611], [363, 366, 393, 474], [364, 365, 446], [369, 396, 477], [370, 376, 403, 484], [372, 374, 617], [373, 400, 481], [378, 380, 623], [379, 385, 466], [381, 462], [382, 383, 464], [387, 389, 632], [388, 469], [390, 399, 480], [391, 472], [405, 423], [406, 407, 425], [408, 411, 465], [409, 412, 430], [414, 416, 470], [415, 424], [417, 420, 422], [418, 419, 662], [432, 450], [433, 451], [435, 438, 681], [436, 439], [441, 443, 449], [442, 448], [444, 447], [445, 454], [460], [468], [486, 492, 510], [487, 488, 542], [489, 507], [490, 491, 494, 512], [495, 501], [496, 505], [498, 500, 554], [499, 502], [504], [508], [513, 515, 521, 539], [514, 520, 538], [516, 519, 537], [517, 518, 536], [522, 528], [523, 524, 530], [525, 527], [526, 535], [531], [532], [534], [540], [541], [543], [544], [549], [550], [552], [553], [567, 569, 575], [568, 574], [570, 573, 591], [571, 572, 590], [576, 578, 587], [577, 583], [579, 582], [580, 581, 584], [585], [586], [588], [589], [594, 596, 602, 620], [595, 601, 619], [597, 600, 618], [598, 599, 626], [603, 605, 614], [604, 610], [606, 609], [607, 608], [612], [613], [615], [621], [622], [624], [625], [630], [631], [633], [634], [648], [649], [651], [652], [657], [658], [660], [661], [675], [676], [678], [679], [684], [685], [687], [688]]
def chT : List Nat := [0, 1, 0, 2, 3, 3, 2, 1, 0, 4, 5, 4, 6, 7, 7, 6, 5, 6, 8, 9, 8, 10, 11, 10, 2, 1, 6, 12, 13, 12, 14, 15, 15, 14, 13, 15, 16, 17, 16, 18, 19, 19, 18, 17, 17, 20, 21, 16, 22, 23, 19, 18, 13, 15, 24, 25, 12, 26, 27, 3, 26, 27, 26, 28, 29, 29, 30, 31, 7, 28, 5, 7, 20, 21, 12, 22, 23, 10, 18, 1, 6, 32, 33, 32, 34, 35, 35, 34, 33, 34, 36, 37, 36, 38, 39, 39, 38, 37, 36, 40, 41, 32, 42, 43, 39, 38, 43, 36, 44, 45, 44, 46, 47, 47, 46, 45, 45, 48, 49, 48, 50, 51, 51, 50, 49, 48, 52, 53, 52, 54, 55, 51, 50, 53, 50, 56, 57, 57, 58, 59, 47, 46, 33, 34, 60, 61, 60, 62, 63, 63, 62, 37, 48, 56, 41, 32, 42, 59, 51, 38, 53, 50, 64, 65, 65, 66, 67, 35, 64, 67, 0, 68, 69, 68, 70, 71, 71, 70, 69, 71, 40, 9, 8, 66, 11, 39, 2, 43, 36, 72, 73, 44, 74, 75, 74, 14, 75, 45, 76, 77, 77, 78, 79, 78, 76, 49, 17, 72, 73, 52, 54, 79, 19, 14, 13, 15, 24, 25, 57, 58, 80, 47, 46, 27, 26, 81, 61, 60, 30, 31, 63, 28, 5, 7, 20, 21, 12, 22, 23, 10, 18, 1, 6, 82, 83, 82, 84, 85, 85, 84, 83, 84, 86, 87, 86, 88, 89, 89, 88, 87, 88, 90, 91, 82, 92, 93, 89, 90, 91, 88, 94, 95, 94, 96, 97, 97, 96, 95, 96, 98, 99, 98, 100, 101, 101, 100, 99, 98, 102, 103, 94, 104, 105, 105, 102, 103, 96, 106, 107, 107, 108, 109, 97, 108, 95, 97, 110, 111, 86, 112, 113, 101, 100, 113, 98, 110, 111, 86, 92, 93, 105, 90, 91, 88, 114, 115, 114, 116, 117, 117, 116, 115, 114, 118, 119, 118, 120, 121, 121, 120, 119, 118, 122, 123, 122, 124, 125, 117, 120, 115, 122, 126, 127, 126, 128, 129, 129, 128, 127, 127, 130, 131, 130, 132, 133, 133, 132, 131, 131, 134, 135, 130, 136, 137, 136, 128, 135, 127, 138, 139, 138, 140, 141, 141, 116, 139, 114, 142, 143, 142, 144, 145, 121, 132, 119, 118, 134, 123, 130, 144, 137, 117, 128, 135, 127, 146, 147, 147, 148, 149, 85, 148, 149, 84, 150, 151, 150, 152, 153, 153, 152, 87, 152, 146, 151, 147, 124, 125, 85, 120, 149, 84, 154, 155, 126, 156, 157, 129, 156, 157, 126, 158, 159, 158, 160, 161, 133, 160, 159, 158, 154, 155, 94, 104, 161, 129, 102, 103, 96, 106, 162, 107, 140, 109, 141, 148, 139, 114, 163, 143, 150, 112, 145, 101, 132, 119, 118, 134, 123, 130, 144, 137, 117, 128, 135, 127, 164, 165, 165, 166, 167, 167, 164, 83, 167, 168, 169, 4, 170, 171, 170, 168, 171, 4, 172, 169, 82, 166, 173, 89, 164, 83, 167, 174, 175, 174, 176, 177, 177, 176, 175, 174, 178, 179, 179, 180, 181, 180, 178, 99, 179, 182, 183, 16, 184, 181, 177, 176, 175, 174, 185, 186, 165, 187, 188, 3, 108, 95, 97, 189, 190, 29, 191, 192, 170, 100, 113, 98, 110, 111, 86, 92, 93, 105, 90, 91, 88, 193, 194, 193, 195, 196, 196, 195, 194, 193, 197, 198, 197, 199, 200, 200, 199, 198, 200, 201, 202, 197, 203, 204, 196, 195, 115, 122, 205, 206, 205, 207, 208, 208, 207, 206, 205, 209, 210, 209, 211, 212, 212, 211, 210, 131, 213, 214, 209, 215, 55, 136, 207, 206, 205, 216, 217, 138, 218, 219, 208, 116, 33, 34, 220, 221, 142, 222, 223, 121, 62, 37, 48, 56, 41, 32, 42, 59, 51, 38, 53, 50, 224, 225, 65, 226, 227, 35, 64, 67, 0, 228, 229, 68, 230, 231, 153, 70, 69, 71, 40, 9, 8, 66, 11, 39, 2, 43, 36, 232, 233, 44, 234, 235, 74, 156, 75, 45, 236, 237, 77, 238, 239, 78, 76, 49, 17, 72, 73, 52, 54, 79, 19, 14, 13, 15, 24, 25, 57, 58, 80, 47, 46, 27, 26, 81, 61, 60, 30, 31, 63, 28, 5, 7, 20, 21, 12, 22, 23, 10, 18, 1, 6]
def subB (c o : Nat) : Bool := (List.range 6).all (fun k => decide (dgt o k = 2) || decide (dgt o k = dgt c k))
theorem subB_D {c o : Nat} (h : subB c o = true) : subD c o := fun k hk => by
  have := List.all_eq_true.mp h k (List.mem_range.mpr hk)
  rw [Bool.or_eq_true, decide_eq_true_eq, decide_eq_true_eq] at this
  exact this
def cmpL : List Nat → Bool
  | [] => true
  | c :: r => r.all (fun o => subB c o) && cmpL r
theorem cmpL_mem : ∀ (L : List Nat), cmpL L = true → ∀ c o, c ∈ L → o ∈ L → subD c o ∨ subD o c := by
  intro L
  induction L with
  | nil => intro _ c o h; cases h
  | cons a r ih =>
    intro h c o hc ho
    rw [cmpL, Bool.and_eq_true] at h
    have hr := List.all_eq_true.mp h.1
    rcases List.mem_cons.mp hc with rfl | hc2
    · rcases List.mem_cons.mp ho with rfl | ho2
      · exact Or.inl (subD_rf _)
      · exact Or.inl (subB_D (hr o ho2))
    · rcases List.mem_cons.mp ho with rfl | ho2
      · exact Or.inr (subB_D (hr c hc2))
      · exact ih h.2 c o hc2 ho2
theorem ch1 : chL.all cmpL = true := by decide +kernel
theorem ch2 : ∀ c, c < 729 → (chL.getD (chT.getD c 0) []).contains c = true := by decide +kernel
theorem ch3 : ∀ c, c < 729 → chT.getD c 0 < 240 := by decide +kernel
theorem ch_cmp {c o : Nat} (hc : c < 729) (ho : o < 729) (e : chT.getD c 0 = chT.getD o 0) : subD c o ∨ subD o c := by
  have h1 := ch2 c hc
  have h2 := ch2 o ho
  rw [← e] at h2
  obtain ⟨L, hL⟩ : ∃ L, L = chL.getD (chT.getD c 0) [] := ⟨_, rfl⟩
  rw [← hL] at h1 h2
  have hm : L ∈ chL ∨ L = [] := by
    rw [hL, List.getD_eq_getElem?_getD]
    cases hq : chL[chT.getD c 0]? with
    | none => exact Or.inr rfl
    | some z => exact Or.inl (List.mem_of_getElem? hq)
  rcases hm with hm | hm
  · exact cmpL_mem L (List.all_eq_true.mp ch1 L hm) c o (List.contains_iff_mem.mp h1) (List.contains_iff_mem.mp h2)
  · rw [hm] at h1
    simp at h1

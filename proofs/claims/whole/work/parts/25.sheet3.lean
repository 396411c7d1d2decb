/-! Sheet: gatherRequired, gatherFalls -/
def addL (L : List Int32) (x : Int32) : List Int32 := if x ∈ L then L else L ++ [x]
def addAll (L xs : List Int32) : List Int32 := xs.foldl addL L
theorem addL_len (L : List Int32) (x : Int32) : (addL L x).length ≤ L.length + 1 := by
  unfold addL
  split
  · omega
  · simp
theorem addAll_len : ∀ (xs L : List Int32), (addAll L xs).length ≤ L.length + xs.length
  | [], L => Nat.le_refl _
  | x :: xs, L => by
    have h1 := addAll_len xs (addL L x)
    have h2 := addL_len L x
    show (addAll (addL L x) xs).length ≤ _
    rw [List.length_cons]
    omega
def shR (MI : Nat → Nat → Int32) (a : Nat) (r : Nat → Int32) (L : List Int32) : Nat → Nat → Int32 := u2 (sr MI (a + 1) (layL r L)) a 6 (nI L.length)
theorem shR_r {MI : Nat → Nat → Int32} {a : Nat} {r : Nat → Int32} {L : List Int32} : shR MI a r L (a + 1) = layL r L := by
  unfold shR
  rw [u2_row _ _ (by omega), sr_eq]
theorem shR_c {MI : Nat → Nat → Int32} {a : Nat} {r : Nat → Int32} {L : List Int32} : shR MI a r L a 6 = nI L.length := u2_eq _ _ _ _
theorem shR_b {MI : Nat → Nat → Int32} {a b : Nat} {r : Nat → Int32} {L : List Int32} (h1 : b ≠ a) (h2 : b ≠ a + 1) : shR MI a r L b = MI b := by
  unfold shR
  rw [u2_row _ _ h1, sr_ne _ _ h2]
theorem layL_lt {r : Nat → Int32} {L : List Int32} {i : Nat} (h : i < L.length) : layL r L i = L.getD i 0 := if_pos h
theorem mem_getD {L : List Int32} {x : Int32} : x ∈ L ↔ ∃ i, i < L.length ∧ L.getD i 0 = x := by
  rw [List.mem_iff_getElem]
  constructor
  · rintro ⟨i, h, e⟩; exact ⟨i, h, by simp [List.getD, h, e]⟩
  · rintro ⟨i, h, e⟩; exact ⟨i, h, by simpa [List.getD, h] using e⟩
theorem frMI_congr {W MI : Nat → Nat → Int32} (h : ∀ b, b < 56 → W b = MI b) (x f : Int32) : frMI W x f = frMI MI x f := by
  have hp : ∀ y, partV W 1 x y = partV MI 1 x y := fun y => by
    unfold partV
    split
    · rename_i z
      have hx := inR_t.mp z.1
      have := clampLt (N := 8) (by decide) hx.1 hx.2
      rw [h _ (by omega)]
    · rfl
  unfold frMI burstV
  rw [h 51 (by decide), h 52 (by decide), h 53 (by decide), h 54 (by decide), h 55 (by decide), hp, hp]
def reqA (MI : Nat → Nat → Int32) (f : Int32) : Nat → List Int32
  | 0 => []
  | k + 1 => addAll (reqA MI f k) (frMI MI (nI k) f)
theorem reqA_len (MI : Nat → Nat → Int32) (f : Int32) : ∀ k, (reqA MI f k).length ≤ 4 * k
  | 0 => Nat.le_refl _
  | k + 1 => by
    have h1 := reqA_len MI f k
    have h2 := addAll_len (frMI MI (nI k) f) (reqA MI f k)
    have h3 : (frMI MI (nI k) f).length ≤ 4 := frq_len _ _ _ _ _ _ _
    rw [reqA]
    omega
/-- REQUIRED CUBES of a FUNCTION, A arcs -/
def reqL (MI : Nat → Nat → Int32) (f : Int32) (A : Nat) : List Int32 := if (valV (MI 45) (MI 2) (MI 1 3) >>> (f &&& 31)) &&& 1 = 0 then reqA MI f A else addL (reqA MI f A) (numC (pointV (MI 44) (MI 2) (MI 1 3)) 0 6)
def fallR (F : Nat → Bool) (B P : Nat → Int64) (FB FP : Nat → Int64) : Nat → Nat × (Nat → Int64) × (Nat → Int64)
  | 0 => (0, FB, FP)
  | k + 1 => if F k = true then ((fallR F B P FB FP k).1 + 1, up (fallR F B P FB FP k).2.1 (fallR F B P FB FP k).1 (B k), up (fallR F B P FB FP k).2.2 (fallR F B P FB FP k).1 (P k)) else fallR F B P FB FP k
theorem fallR_le (F : Nat → Bool) (B P FB FP : Nat → Int64) : ∀ k, (fallR F B P FB FP k).1 ≤ k
  | 0 => Nat.le_refl _
  | k + 1 => by
    have := fallR_le F B P FB FP k
    rw [fallR]
    split
    · show (fallR F B P FB FP k).1 + 1 ≤ k + 1
      omega
    · omega
section sheet3
variable {X : xG} {n : Nat} {MI : Nat → Nat → Int32} {ML : Nat → Nat → Int64} {MR : Nat → Nat → Option Nat} {a : Nat}
theorem t_addRequired (hA : x_Sh MR a) {r : Nat → Int32} {L : List Int32} {x : Int32} (hL : L.length < 33) : Cf X yX7_addRequired cX7_addRequired 3 none 2 [.ref a, .int x] n SH (shR MI a r L) ML MR none (shR MI a r (addL L x)) ML MR := by
  obtain ⟨s0, m1, m2, m3, m5, m7, m8, m10, m12, m17, s1, s2, s3, s4, s5, s6, hal⟩ := hA
  refine Ct_of (by decide) (Nat.le_of_ble_eq_true rfl) (fun G hG => ?_)
  have hpk : ∀ i, i < L.length → pickV (shR MI a r L (a + 1)) 33 (nI i) = L.getD i 0 := fun i hi => by rw [shR_r, pickV_nI _ (show i < 33 by omega) (by decide), layL_lt hi]
  have hput : u2 (placeM (shR MI a r L) (a + 1) 33 (nI L.length) x) a 6 (placeM (shR MI a r L) (a + 1) 33 (nI L.length) x a 6 + 1) = shR MI a r (L ++ [x]) := by
    unfold placeM
    rw [if_pos (inR_t.mp (inR_nI hL (by decide))), nI_clamp (by omega), u2_row _ _ (show a ≠ a + 1 by omega), shR_c, nI_1]
    unfold shR
    rw [← layL_app, List.length_append]
    funext b j
    simp only [u2, sr, up, List.length_cons, List.length_nil]
    grind
  have loop : ∀ i, i ≤ L.length → (∀ k, k < i → ¬ L.getD k 0 = x) → RW X G RX7 cX7_addRequired 3 (x_rm 2 0 0) n SH (shR MI a r L) ML MR 0 0 2 [(2, .int (nI i)), (0, .ref a), (1, .int x)] [] := by
    refine bwd (fun i hi ih hk => ?_)
    refine r_iload_n 0 rfl dX7_addRequired_2 ?_
    refine r_aload_n 1 rfl dX7_addRequired_3 ?_
    refine r_geti dX7_addRequired_4 fl_X7_58 s0 ?_
    refine r_icmpge (tgt := 29) dX7_addRequired_7 (by decide) (fun zh7 => ?_) (fun zh7 => ?_)
    · rw [shR_c] at zh7
      have hiL : i = L.length := by have := geL (k := L.length) (by omega) (by omega) zh7; omega
      refine r_aload_n 1 rfl dX7_addRequired_29 ?_
      refine r_getr dX7_addRequired_30 fl_X7_11 s0 m5 ?_
      refine r_aload_n 1 rfl dX7_addRequired_33 ?_
      refine r_geti dX7_addRequired_34 fl_X7_58 s0 ?_
      refine r_iload_n 2 rfl dX7_addRequired_37 ?_
      refine r_Sn [.ref _, .int _, .int _] dX7_addRequired_38 lk_X7_155 mb_X10_place sc_X10_place rfl (c_X10_place (N := 33) s1 (by decide)) rfl (Nat.le_of_ble_eq_true rfl) (rfl) ?_
      refine r_aload_n 1 rfl dX7_addRequired_41 ?_
      refine r_dup rfl dX7_addRequired_42 ?_
      refine r_geti dX7_addRequired_43 fl_X7_58 s0 ?_
      refine r_iconst (v := 1) rfl dX7_addRequired_46 ?_
      refine r_iadd dX7_addRequired_47 ?_
      refine r_puti dX7_addRequired_48 fl_X7_58 s0 rfl rfl ?_
      exact r_vret hG dX7_addRequired_51 (⟨rfl, by rw [show addL L x = L ++ [x] from if_neg (fun q => by obtain ⟨k, h1, h2⟩ := mem_getD.mp q; exact hk k (by omega) h2), shR_c]; exact hput, rfl, rfl⟩)
    · rw [shR_c] at zh7
      have hlt : i < L.length := ltL (by omega) zh7
      refine r_aload_n 1 rfl dX7_addRequired_10 ?_
      refine r_getr dX7_addRequired_11 fl_X7_11 s0 m5 ?_
      refine r_iload_n 0 rfl dX7_addRequired_14 ?_
      refine r_Sf [.ref _, .int _] dX7_addRequired_15 lk_X7_68 mb_X10_pick sc_X10_pick rfl (c_X10_pick (N := 33) s1 (by decide)) rfl (Nat.le_of_ble_eq_true rfl) (rfl) ?_
      refine r_iload_n 2 rfl dX7_addRequired_18 ?_
      refine r_icmpne (tgt := 23) dX7_addRequired_19 (by decide) (fun zh19 => ?_) (fun zh19 => ?_)
      · rw [hpk i hlt] at zh19
        refine r_iinc (v := (nI (i + 1))) (ls2 := [(2, .int (nI (i + 1))), (0, .ref a), (1, .int x)]) 0 dX7_addRequired_23 rfl (x_inc i) (by decide) rfl ?_
        refine r_goto (tgt := 2) dX7_addRequired_26 (by decide) ?_
        refine ih hlt (fun k hk2 => ?_)
        rcases Nat.lt_or_ge k i with q | q
        · exact hk k q
        · obtain rfl : k = i := by omega
          exact zh19
      · rw [hpk i hlt] at zh19
        exact r_vret hG dX7_addRequired_22 (⟨rfl, by rw [show addL L x = L from if_pos (mem_getD.mpr ⟨i, hlt, zh19⟩)], rfl, rfl⟩)
  refine r_iconst (v := 0) rfl dX7_addRequired_0 ?_
  refine r_istore_n (ls2 := [(2, .int 0), (0, .ref a), (1, .int x)]) dX7_addRequired_1 (by decide) rfl ?_
  exact loop 0 (by omega) (fun k hk => absurd hk (Nat.not_lt_zero k))
set_option maxRecDepth 100000 in
theorem c_X7_gatherRequired (hM : x_Lay MR) (hA0 : x_Sh MR a) {A : Nat} (hA8 : A ≤ 8) (hAr : MI 1 6 = nI A) {f : Int32} (hf : MI a 0 = f) : Ct X yX7_gatherRequired cX7_gatherRequired 4 none 4 0 0 [.ref a] n SH MI ML MR n SH (fun r0 W B C => r0 = none ∧ (∃ g, W = shR (sr MI 56 g) a (MI (a + 1)) (reqL MI f A)) ∧ B = ML ∧ C = MR) := by
  have hA := hA0
  obtain ⟨s0, m1, m2, m3, m5, m7, m8, m10, m12, m17, s1, s2, s3, s4, s5, s6, hal⟩ := hA
  refine Ct_of (by decide) (Nat.le_of_ble_eq_true rfl) (fun G hG => ?_)
  have hb : ∀ g L b, b < 56 → shR (sr MI 56 g) a (MI (a + 1)) L b = MI b := fun g L b h => by rw [shR_b (by omega) (by omega), sr_ne _ _ (by omega)]
  have hfr : ∀ g L x, frMI (shR (sr MI 56 g) a (MI (a + 1)) L) x f = frMI MI x f := fun g L x => frMI_congr (hb g L) x f
  have h56 : ∀ g L, shR (sr MI 56 g) a (MI (a + 1)) L 56 = g := fun g L => by rw [shR_b (by omega) (by omega), sr_eq]
  have hs56 : ∀ g g2 L, sr (shR (sr MI 56 g) a (MI (a + 1)) L) 56 g2 = shR (sr MI 56 g2) a (MI (a + 1)) L := fun g g2 L => by
    funext b j
    simp only [shR, u2, sr]
    grind
  have hfa : ∀ g L, shR (sr MI 56 g) a (MI (a + 1)) L a 0 = f := fun g L => by rw [← hf]; unfold shR; rw [u2_ne _ _ (by omega), sr_ne _ _ (by omega), sr_ne _ _ (by omega)]
  have q1 : ∀ i g, (if (valV (MI 45) (MI 2) (MI 1 3) >>> (f &&& 31)) &&& 1 = 0 then (0 : Int32) else 1) = 0 → ((none : Option Value) = none ∧ (∃ g', shR (sr MI 56 g) a (MI (a + 1)) (reqA MI f i) = shR (sr MI 56 g') a (MI (a + 1)) (reqL MI f i)) ∧ ML = ML ∧ MR = MR) := fun i g h => by
    have hz : (valV (MI 45) (MI 2) (MI 1 3) >>> (f &&& 31)) &&& 1 = 0 := by
      by_cases z : (valV (MI 45) (MI 2) (MI 1 3) >>> (f &&& 31)) &&& 1 = 0
      · exact z
      · rw [if_neg z] at h; exact absurd h (by decide)
    exact ⟨rfl, ⟨g, by rw [show reqL MI f i = reqA MI f i from if_pos hz]⟩, rfl, rfl⟩
  have q2 : ∀ i g, ¬ (if (valV (MI 45) (MI 2) (MI 1 3) >>> (f &&& 31)) &&& 1 = 0 then (0 : Int32) else 1) = 0 → ((none : Option Value) = none ∧ (∃ g', shR (sr MI 56 g) a (MI (a + 1)) (addL (reqA MI f i) (numC (pointV (shR (sr MI 56 g) a (MI (a + 1)) (reqA MI f i) 44) (shR (sr MI 56 g) a (MI (a + 1)) (reqA MI f i) 2) (shR (sr MI 56 g) a (MI (a + 1)) (reqA MI f i) 1 3)) 0 6)) = shR (sr MI 56 g') a (MI (a + 1)) (reqL MI f i)) ∧ ML = ML ∧ MR = MR) := fun i g h => by
    have hz : ¬ (valV (MI 45) (MI 2) (MI 1 3) >>> (f &&& 31)) &&& 1 = 0 := fun z => h (by rw [if_pos z])
    refine ⟨rfl, ⟨g, ?_⟩, rfl, rfl⟩
    rw [show reqL MI f i = addL (reqA MI f i) (numC (pointV (MI 44) (MI 2) (MI 1 3)) 0 6) from if_neg hz, hb _ _ 44 (by decide), hb _ _ 2 (by decide), hb _ _ 1 (by decide)]
  have l1 : ∀ i, i ≤ A → ∀ g, RW X G RX7 cX7_gatherRequired 4 (x_rm 4 0 0) n SH (shR (sr MI 56 g) a (MI (a + 1)) (reqA MI f i)) ML MR 0 0 7 [(1, .int (nI i)), (0, .ref a)] [] := by
    refine bwd (fun i hi ih g => ?_)
    have hlen := reqA_len MI f i
    have inner : i < A → ∀ g, (∀ k, k < (frMI MI (nI i) f).length → g k = (frMI MI (nI i) f).getD k 0) → ∀ k, k ≤ (frMI MI (nI i) f).length → RW X G RX7 cX7_gatherRequired 4 (x_rm 4 0 0) n SH (shR (sr MI 56 g) a (MI (a + 1)) (addAll (reqA MI f i) ((frMI MI (nI i) f).take k))) ML MR 0 0 36 [(3, .int (nI k)), (2, .int (nI (frMI MI (nI i) f).length)), (1, .int (nI i)), (0, .ref a)] [] := by
      intro hiA g hg
      have hl4 : (frMI MI (nI i) f).length ≤ 4 := frq_len _ _ _ _ _ _ _
      refine bwd (fun k hk ihk => ?_)
      have hal2 := addAll_len ((frMI MI (nI i) f).take k) (reqA MI f i)
      have htl : ((frMI MI (nI i) f).take k).length ≤ k := by rw [List.length_take]; omega
      refine r_iload_n 0 rfl dX7_gatherRequired_36 ?_
      refine r_iload_n 1 rfl dX7_gatherRequired_37 ?_
      refine r_icmpge (tgt := 62) dX7_gatherRequired_38 (by decide) (fun zh38 => ?_) (fun zh38 => ?_)
      · have hke : k = (frMI MI (nI i) f).length := by have := geL (k := (frMI MI (nI i) f).length) (by omega) (by omega) zh38; omega
        refine r_iinc (v := (nI (i + 1))) (ls2 := [(1, .int (nI (i + 1))), (3, .int (nI k)), (2, .int (nI (frMI MI (nI i) f).length)), (0, .ref a)]) 2 dX7_gatherRequired_62 rfl (x_inc i) (by decide) rfl ?_
        refine r_goto (tgt := 7) dX7_gatherRequired_65 (by decide) ?_
        have q := ih hiA g
        rw [show reqA MI f (i + 1) = addAll (reqA MI f i) ((frMI MI (nI i) f).take k) from by rw [hke, List.take_length]; rfl] at q
        exact r_sub [0, 3] rfl q
      · have hkl : k < (frMI MI (nI i) f).length := ltL (by omega) zh38
        refine r_aload_n 3 rfl dX7_gatherRequired_41 ?_
        refine r_aload_n 3 rfl dX7_gatherRequired_42 ?_
        refine r_getr dX7_gatherRequired_43 fl_X7_37 s0 m1 ?_
        refine r_getr dX7_gatherRequired_46 fl_X7_142 rfl (hM _ _ _ rfl) ?_
        refine r_iload_n 0 rfl dX7_gatherRequired_49 ?_
        refine r_Sf [.ref _, .int _] dX7_gatherRequired_50 lk_X7_68 mb_X10_pick sc_X10_pick rfl (c_X10_pick (N := 4) rfl (by decide)) rfl (Nat.le_of_ble_eq_true rfl) (rfl) ?_
        refine r_Vn [.int _] dX7_gatherRequired_53 lk_X7_145 mb_X7_addRequired in_X7_addRequired se_X7_addRequired rfl (t_addRequired hA0 (by omega)) s0 rfl rfl (Nat.le_of_ble_eq_true rfl) (rfl) ?_
        refine r_iinc (v := (nI (k + 1))) (ls2 := [(3, .int (nI (k + 1))), (2, .int (nI (frMI MI (nI i) f).length)), (1, .int (nI i)), (0, .ref a)]) 0 dX7_gatherRequired_56 rfl (x_inc k) (by decide) rfl ?_
        refine r_goto (tgt := 36) dX7_gatherRequired_59 (by decide) ?_
        refine r_mem ?_ rfl rfl (ihk hkl)
        rw [h56, pickV_nI _ (show k < 4 by omega) (by decide), hg k hkl]
        congr 1
        unfold addAll
        rw [show (frMI MI (nI i) f).take (k + 1) = (frMI MI (nI i) f).take k ++ [(frMI MI (nI i) f).getD k 0] from by rw [List.take_add_one]; simp [List.getD, hkl]]
        rw [List.foldl_append]
        rfl
    refine r_iload_n 0 rfl dX7_gatherRequired_7 ?_
    refine r_aload_n 1 rfl dX7_gatherRequired_8 ?_
    refine r_getr dX7_gatherRequired_9 fl_X7_37 s0 m1 ?_
    refine r_getr dX7_gatherRequired_12 fl_X7_128 rfl (hM _ _ _ rfl) ?_
    refine r_geti dX7_gatherRequired_15 fl_X7_134 rfl ?_
    refine r_icmpge (tgt := 68) dX7_gatherRequired_18 (by decide) (fun zh18 => ?_) (fun zh18 => ?_)
    · rw [hb _ _ 1 (by decide), hAr] at zh18
      obtain rfl : i = A := by have := geL (k := A) (by omega) (by omega) zh18; omega
      refine r_aload_n 1 rfl dX7_gatherRequired_68 ?_
      refine r_getr dX7_gatherRequired_69 fl_X7_37 s0 m1 ?_
      refine r_aload_n 1 rfl dX7_gatherRequired_72 ?_
      refine r_geti dX7_gatherRequired_73 fl_X7_33 s0 ?_
      refine r_Vf [.int _] dX7_gatherRequired_76 lk_X7_148 mb_X8_isOneAtBegin in_X8_isOneAtBegin se_X8_isOneAtBegin rfl (c_X8_isOneAtBegin hM) rfl rfl rfl (Nat.le_of_ble_eq_true rfl) (rfl) ?_
      refine r_ifeq (tgt := 93) dX7_gatherRequired_79 (by decide) (fun zh79 => ?_) (fun zh79 => ?_)
      · exact r_vret hG dX7_gatherRequired_93 (by rw [hfa, hb _ _ 45 (by decide), hb _ _ 2 (by decide), hb _ _ 1 (by decide)] at zh79; first | exact q1 i g zh79 | exact q2 i g zh79)
      · refine r_aload_n 1 rfl dX7_gatherRequired_82 ?_
        refine r_aload_n 1 rfl dX7_gatherRequired_83 ?_
        refine r_getr dX7_gatherRequired_84 fl_X7_37 s0 m1 ?_
        refine r_Vf [] dX7_gatherRequired_87 lk_X7_152 mb_X8_beginCube in_X8_beginCube se_X8_beginCube rfl (c_X8_beginCube hM) rfl rfl rfl (Nat.le_of_ble_eq_true rfl) (rfl) ?_
        refine r_Vn [.int _] dX7_gatherRequired_90 lk_X7_145 mb_X7_addRequired in_X7_addRequired se_X7_addRequired rfl (t_addRequired hA0 (by omega)) s0 rfl rfl (Nat.le_of_ble_eq_true rfl) (rfl) ?_
        exact r_vret hG dX7_gatherRequired_93 (by rw [hfa, hb _ _ 45 (by decide), hb _ _ 2 (by decide), hb _ _ 1 (by decide)] at zh79; first | exact q1 i g zh79 | exact q2 i g zh79)
    · rw [hb _ _ 1 (by decide), hAr] at zh18
      have hlt : i < A := ltL (by omega) zh18
      refine r_aload_n 1 rfl dX7_gatherRequired_21 ?_
      refine r_getr dX7_gatherRequired_22 fl_X7_37 s0 m1 ?_
      refine r_aload_n 1 rfl dX7_gatherRequired_25 ?_
      refine r_geti dX7_gatherRequired_26 fl_X7_33 s0 ?_
      refine r_iload_n 0 rfl dX7_gatherRequired_29 ?_
      refine r_Vf [.int _, .int _] dX7_gatherRequired_30 lk_X7_139 mb_X8_findRequired in_X8_findRequired se_X8_findRequired rfl (c_X8_findRequired hM) rfl rfl rfl (Nat.le_of_ble_eq_true rfl) (rfl) ?_
      refine r_nmi (fun zv33 ze33 => ?_)
      refine r_istore_n (ls2 := [(2, .int zv33), (1, .int (nI i)), (0, .ref a)]) dX7_gatherRequired_33 (by decide) rfl ?_
      refine r_iconst (v := 0) rfl dX7_gatherRequired_34 ?_
      refine r_istore_n (ls2 := [(3, .int 0), (2, .int zv33), (1, .int (nI i)), (0, .ref a)]) dX7_gatherRequired_35 (by decide) rfl ?_
      rw [hfa, hfr] at ze33
      subst ze33
      have q := inner hlt (layL g (frMI MI (nI i) f)) (fun k hk => layL_lt hk) 0 (by omega)
      refine r_mem ?_ rfl rfl (r_sub [0, 1, 2, 3] rfl q)
      rw [hfa, hfr, h56, hs56]
      rfl
  refine r_aload_n 0 rfl dX7_gatherRequired_0 ?_
  refine r_iconst (v := 0) rfl dX7_gatherRequired_1 ?_
  refine r_puti dX7_gatherRequired_2 fl_X7_58 s0 rfl rfl ?_
  refine r_iconst (v := 0) rfl dX7_gatherRequired_5 ?_
  refine r_istore_n (ls2 := [(1, .int 0), (0, .ref a)]) dX7_gatherRequired_6 (by decide) rfl ?_
  refine r_mem ?_ rfl rfl (l1 0 (by omega) (MI 56))
  funext b j
  simp only [shR, reqA, layL_nil, u2, sr, List.length_nil, nI_0]
  grind
def fallM (MI : Nat → Nat → Int32) (a c : Nat) : Nat → Nat → Int32 := u2 MI a 9 (nI c)
set_option maxRecDepth 100000 in
theorem c_X7_gatherFalls (hM : x_Lay MR) (hA0 : x_Sh MR a) {A : Nat} (hA8 : A ≤ 8) (hAr : MI 1 6 = nI A) {f : Int32} (hf : MI a 0 = f) {F : Nat → Bool} (hF : F = fun i => fallV (MI 54) (MI 55) f (nI i)) {B P : Nat → Int64} (hB : B = fun i => ptsV ML (MI 51 i)) (hP : P = fun i => ptL (MI 53 i)) {R : Nat × (Nat → Int64) × (Nat → Int64)} (hR : R = fallR F B P (ML (a + 2)) (ML (a + 3)) A) : Cf X yX7_gatherFalls cX7_gatherFalls 2 none 3 [.ref a] n SH MI ML MR none (fallM MI a R.1) (sr (sr ML (a + 2) R.2.1) (a + 3) R.2.2) MR := by
  have hA := hA0
  obtain ⟨s0, m1, m2, m3, m5, m7, m8, m10, m12, m17, s1, s2, s3, s4, s5, s6, hal⟩ := hA
  refine Ct_of (by decide) (Nat.le_of_ble_eq_true rfl) (fun G hG => ?_)
  obtain ⟨S, hS⟩ : ∃ S : Nat → Nat × (Nat → Int64) × (Nat → Int64), S = fallR F B P (ML (a + 2)) (ML (a + 3)) := ⟨_, rfl⟩
  have hle : ∀ i, (S i).1 ≤ i := fun i => by rw [hS]; exact fallR_le F B P _ _ i
  have hb : ∀ c b, b ≠ a → fallM MI a c b = MI b := fun c b h => u2_row _ _ h
  have hc9 : ∀ c, fallM MI a c a 9 = nI c := fun c => u2_eq _ _ _ _
  have hfa : ∀ c, fallM MI a c a 0 = f := fun c => by rw [← hf]; exact u2_ne _ _ (by omega)
  have h58 : ∀ g1 g2, sr (sr ML (a + 2) g1) (a + 3) g2 58 = ML 58 := fun g1 g2 => by rw [sr_ne _ _ (by omega), sr_ne _ _ (by omega)]
  have hpt : ∀ g1 g2 x, ptsV (sr (sr ML (a + 2) g1) (a + 3) g2) x = ptsV ML x := fun g1 g2 x => by unfold ptsV; rw [h58]
  have loop : ∀ i, i ≤ A → RW X G RX7 cX7_gatherFalls 2 (x_rm 3 0 0) n SH (fallM MI a (S i).1) (sr (sr ML (a + 2) (S i).2.1) (a + 3) (S i).2.2) MR 0 0 7 [(1, .int (nI i)), (0, .ref a)] [] := by
    refine bwd (fun i hi ih => ?_)
    have hli := hle i
    have hSs : S (i + 1) = if F i = true then ((S i).1 + 1, up (S i).2.1 (S i).1 (B i), up (S i).2.2 (S i).1 (P i)) else S i := by rw [hS]; rfl
    refine r_iload_n 0 rfl dX7_gatherFalls_7 ?_
    refine r_aload_n 1 rfl dX7_gatherFalls_8 ?_
    refine r_getr dX7_gatherFalls_9 fl_X7_37 s0 m1 ?_
    refine r_getr dX7_gatherFalls_12 fl_X7_128 rfl (hM _ _ _ rfl) ?_
    refine r_geti dX7_gatherFalls_15 fl_X7_134 rfl ?_
    refine r_icmpge (tgt := 105) dX7_gatherFalls_18 (by decide) (fun zh18 => ?_) (fun zh18 => ?_)
    · rw [hb _ 1 (by omega), hAr] at zh18
      obtain rfl : i = A := by have := geL (k := A) (by omega) (by omega) zh18; omega
      exact r_vret hG dX7_gatherFalls_105 (⟨rfl, by rw [hR, hS], by rw [hR, hS], rfl⟩)
    · rw [hb _ 1 (by omega), hAr] at zh18
      have hlt : i < A := ltL (by omega) zh18
      refine r_aload_n 1 rfl dX7_gatherFalls_21 ?_
      refine r_geti dX7_gatherFalls_22 fl_X7_159 s0 ?_
      refine r_bipush (v := 8) rfl dX7_gatherFalls_25 ?_
      refine r_icmpge (tgt := 105) dX7_gatherFalls_27 (by decide) (fun zh27 => ?_) (fun zh27 => ?_)
      · exact absurd zh27 (fun q => absurd (geL (k := 8) (i := (S i).1) (by decide) (by omega) (by rw [hc9] at q; exact q)) (by omega))
      refine r_aload_n 1 rfl dX7_gatherFalls_30 ?_
      refine r_getr dX7_gatherFalls_31 fl_X7_37 s0 m1 ?_
      refine r_aload_n 1 rfl dX7_gatherFalls_34 ?_
      refine r_geti dX7_gatherFalls_35 fl_X7_33 s0 ?_
      refine r_iload_n 0 rfl dX7_gatherFalls_38 ?_
      refine r_Vf [.int _, .int _] dX7_gatherFalls_39 lk_X7_162 mb_X8_fallsBy in_X8_fallsBy se_X8_fallsBy rfl (c_X8_fallsBy hM) rfl rfl rfl (Nat.le_of_ble_eq_true rfl) (rfl) ?_
      refine r_ifeq (tgt := 99) dX7_gatherFalls_42 (by decide) (fun zh42 => ?_) (fun zh42 => ?_)
      · try (rw [hb _ 54 (by omega), hb _ 55 (by omega), hfa] at zh42)
        refine r_iinc (v := (nI (i + 1))) (ls2 := [(1, .int (nI (i + 1))), (0, .ref a)]) 0 dX7_gatherFalls_99 rfl (x_inc i) (by decide) rfl ?_
        refine r_goto (tgt := 7) dX7_gatherFalls_102 (by decide) ?_
        have q := ih hlt
        first
          | (rw [hSs, if_pos hFi] at q
             refine r_mem ?_ ?_ rfl q
             · rw [hc9, nI_1]; funext b j; simp only [fallM, u2]; grind
             · rw [hc9, nI_clamp (by omega), hb _ 51 (by omega), hb _ 53 (by omega), hpt, pickV_nI _ (show i < 8 by omega) (by decide), pickV_nI _ (show i < 8 by omega) (by decide), show ptsV ML (MI 51 i) = B i from by rw [hB], show ptL (MI 53 i) = P i from by rw [hP]]
               funext b j; simp only [u2, sr, up]; grind)
          | (have hFi : ¬ F i = true := (by rw [hF]; simp_all)
             rw [hSs, if_neg hFi] at q
             exact q)
      · rw [hb _ 54 (by omega), hb _ 55 (by omega), hfa] at zh42
        have hFi : F i = true := by rw [hF]; simp_all
        refine r_aload_n 1 rfl dX7_gatherFalls_45 ?_
        refine r_getr dX7_gatherFalls_46 fl_X7_15 s0 m7 ?_
        refine r_aload_n 1 rfl dX7_gatherFalls_49 ?_
        refine r_geti dX7_gatherFalls_50 fl_X7_159 s0 ?_
        refine r_aload_n 1 rfl dX7_gatherFalls_53 ?_
        refine r_getr dX7_gatherFalls_54 fl_X7_41 s0 m2 ?_
        refine r_aload_n 1 rfl dX7_gatherFalls_57 ?_
        refine r_getr dX7_gatherFalls_58 fl_X7_37 s0 m1 ?_
        refine r_getr dX7_gatherFalls_61 fl_X7_166 rfl (hM _ _ _ rfl) ?_
        refine r_iload_n 0 rfl dX7_gatherFalls_64 ?_
        refine r_Sf [.ref _, .int _] dX7_gatherFalls_65 lk_X7_68 mb_X10_pick sc_X10_pick rfl (c_X10_pick (N := 8) rfl (by decide)) rfl (Nat.le_of_ble_eq_true rfl) (rfl) ?_
        refine r_Vf [.int _] dX7_gatherFalls_68 lk_X7_72 mb_X2_pointsOf in_X2_pointsOf se_X2_pointsOf rfl (c_X2_pointsOf hM) rfl rfl rfl (Nat.le_of_ble_eq_true rfl) (rfl) ?_
        refine r_last dX7_gatherFalls_71 s2 (by rw [hc9]; exact vp_in_nI (show (S i).1 < 8 by omega) (by decide)) ?_
        refine r_aload_n 1 rfl dX7_gatherFalls_72 ?_
        refine r_getr dX7_gatherFalls_73 fl_X7_19 s0 m8 ?_
        refine r_aload_n 1 rfl dX7_gatherFalls_76 ?_
        refine r_geti dX7_gatherFalls_77 fl_X7_159 s0 ?_
        refine r_aload_n 1 rfl dX7_gatherFalls_80 ?_
        refine r_getr dX7_gatherFalls_81 fl_X7_37 s0 m1 ?_
        refine r_iload_n 0 rfl dX7_gatherFalls_84 ?_
        refine r_Vf [.int _] dX7_gatherFalls_85 lk_X7_169 mb_X8_fromPoint in_X8_fromPoint se_X8_fromPoint rfl (c_X8_fromPoint hM) rfl rfl rfl (Nat.le_of_ble_eq_true rfl) (rfl) ?_
        refine r_last dX7_gatherFalls_88 s3 (by rw [hc9]; exact vp_in_nI (show (S i).1 < 8 by omega) (by decide)) ?_
        refine r_aload_n 1 rfl dX7_gatherFalls_89 ?_
        refine r_dup rfl dX7_gatherFalls_90 ?_
        refine r_geti dX7_gatherFalls_91 fl_X7_159 s0 ?_
        refine r_iconst (v := 1) rfl dX7_gatherFalls_94 ?_
        refine r_iadd dX7_gatherFalls_95 ?_
        refine r_puti dX7_gatherFalls_96 fl_X7_159 s0 rfl rfl ?_
        try (rw [hb _ 54 (by omega), hb _ 55 (by omega), hfa] at zh42)
        refine r_iinc (v := (nI (i + 1))) (ls2 := [(1, .int (nI (i + 1))), (0, .ref a)]) 0 dX7_gatherFalls_99 rfl (x_inc i) (by decide) rfl ?_
        refine r_goto (tgt := 7) dX7_gatherFalls_102 (by decide) ?_
        have q := ih hlt
        first
          | (rw [hSs, if_pos hFi] at q
             refine r_mem ?_ ?_ rfl q
             · rw [hc9, nI_1]; funext b j; simp only [fallM, u2]; grind
             · rw [hc9, nI_clamp (by omega), hb _ 51 (by omega), hb _ 53 (by omega), hpt, pickV_nI _ (show i < 8 by omega) (by decide), pickV_nI _ (show i < 8 by omega) (by decide), show ptsV ML (MI 51 i) = B i from by rw [hB], show ptL (MI 53 i) = P i from by rw [hP]]
               funext b j; simp only [u2, sr, up]; grind)
          | (have hFi : ¬ F i = true := (by rw [hF]; simp_all)
             rw [hSs, if_neg hFi] at q
             exact q)
  refine r_aload_n 0 rfl dX7_gatherFalls_0 ?_
  refine r_iconst (v := 0) rfl dX7_gatherFalls_1 ?_
  refine r_puti dX7_gatherFalls_2 fl_X7_159 s0 rfl rfl ?_
  refine r_iconst (v := 0) rfl dX7_gatherFalls_5 ?_
  refine r_istore_n (ls2 := [(1, .int 0), (0, .ref a)]) dX7_gatherFalls_6 (by decide) rfl ?_
  refine r_mem ?_ ?_ rfl (loop 0 (by omega))
  · rw [show (S 0).1 = 0 from by rw [hS]; rfl]; rfl
  · rw [show S 0 = (0, ML (a + 2), ML (a + 3)) from by rw [hS]; rfl]
    funext b j; simp only [sr]; grind
end sheet3

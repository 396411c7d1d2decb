/-! Reader: the whole text; the tape -/
def lnP (L : Nat) (q : Ps × Mi) : Ps × Mi := if wrdP (q.2 15) L q.1 0 then rsP L q.1 q.2 else if wrdP (q.2 15) L q.1 1 then rbP L q.1 q.2 else if wrdP (q.2 15) L q.1 2 then raP L q.1 q.2 else if wrdP (q.2 15) L q.1 3 then rgP L q.1 q.2 else (failP q.1 1, q.2)
def lpP (L : Nat) : Nat → Ps × Mi → Ps × Mi
  | 0, q => q
  | k + 1, q => if (lnP L q).1.1 = 0 ∧ sgnP ((lnP L q).2 15) L (lnP L q).1 59 = true then lpP L k (stepP ((lnP L q).2 15) L (lnP L q).1, (lnP L q).2) else lnP L q
/-- what a line leaves as it was, and what holds behind it -/
def lnI (L : Nat) (T : Nat → Int32) (q : Ps × Mi) : Prop := okP L q.1 ∧ dfI q.2 ∧ q.2 14 5 = nI L ∧ q.2 15 = T
theorem dfI_mk {D : Mi} {S A G : Nat} (h1 : S ≤ 6) (h2 : D 16 1 = nI S) (h3 : A ≤ 8) (h4 : D 16 6 = nI A) (h5 : G ≤ 16) (h6 : D 16 8 = nI G) (h0 : D 16 0 = 0 ∨ D 16 0 = 1) : dfI D := by
  unfold dfI cS cA cG
  rw [h2, h4, h6, nI_clamp (by omega), nI_clamp (by omega), nI_clamp (by omega)]
  exact ⟨⟨h1, rfl⟩, ⟨h3, rfl⟩, ⟨h5, rfl⟩, h0⟩
theorem lnI_mk {L : Nat} {T : Nat → Int32} {s : Ps} {D : Mi} (h1 : okP L s) (h2 : dfI D) (h3 : D 14 5 = nI L) (h4 : D 15 = T) : lnI L T (s, D) := ⟨h1, h2, h3, h4⟩
theorem rsP_I {L : Nat} {T : Nat → Int32} {s : Ps} {D : Mi} (h : lnI L T (s, D)) : lnI L T (rsP L s D) := by
  obtain ⟨ok, hD, hl, h15⟩ := h
  have hl : D 14 5 = nI L := hl
  have h15 : D 15 = T := h15
  have hD : dfI D := hD
  have ok : okP L s := ok
  obtain ⟨⟨h1, h2⟩, ⟨h3, h4⟩, ⟨h5, h7⟩, h8⟩ := id hD
  unfold rsP
  split
  · rename_i h6
    split
    · split
      · have en : ∀ w j, j ≠ 1 → u2 (u2 D 17 (cS D) w) 16 1 (nI (cS D + 1)) 16 j = D 16 j := fun w j hj => by rw [u2_ne _ _ (by omega), u2_row _ _ (by decide)]
        have eb : ∀ w b, b ≠ 16 → b ≠ 17 → u2 (u2 D 17 (cS D) w) 16 1 (nI (cS D + 1)) b = D b := fun w b z1 z2 => by rw [u2_row _ _ z1, u2_row _ _ z2]
        exact lnI_mk (okP_step (okP_step ok)) (dfI_mk (S := cS D + 1) (by omega) (u2_eq _ _ _ _) h3 ((en _ 6 (by decide)).trans h4) h5 ((en _ 8 (by decide)).trans h7) (h8.elim (fun z => Or.inl ((en _ 0 (by decide)).trans z)) (fun z => Or.inr ((en _ 0 (by decide)).trans z)))) ((congrFun (eb _ 14 (by decide) (by decide)) 5).trans hl) ((eb _ 15 (by decide) (by decide)).trans h15)
      · exact ⟨okP_fail (okP_step ok), hD, hl, h15⟩
    · exact ⟨okP_fail (okP_step ok), hD, hl, h15⟩
  · exact ⟨okP_fail ok, hD, hl, h15⟩
theorem rbP_I {L : Nat} {T : Nat → Int32} {s : Ps} {D : Mi} (h : lnI L T (s, D)) : lnI L T (rbP L s D) := by
  obtain ⟨ok, hD, hl, h15⟩ := h
  have hl : D 14 5 = nI L := hl
  have h15 : D 15 = T := h15
  have hD : dfI D := hD
  have ok : okP L s := ok
  obtain ⟨⟨h1, h2⟩, ⟨h3, h4⟩, ⟨h5, h7⟩, h8⟩ := id hD
  unfold rbP
  split
  · dsimp only
    have en : ∀ a b c j, j = 1 ∨ j = 6 ∨ j = 8 → u2 (u2 (u2 (u2 D 16 0 1) 16 3 a) 16 4 b) 16 5 c 16 j = D 16 j := fun a b c j hj => by rw [u2_ne _ _ (by omega), u2_ne _ _ (by omega), u2_ne _ _ (by omega), u2_ne _ _ (by omega)]
    have e0 : ∀ a b c, u2 (u2 (u2 (u2 D 16 0 1) 16 3 a) 16 4 b) 16 5 c 16 0 = 1 := fun a b c => by rw [u2_ne _ _ (by decide), u2_ne _ _ (by decide), u2_ne _ _ (by decide), u2_eq]
    have eb : ∀ a b c k, k ≠ 16 → u2 (u2 (u2 (u2 D 16 0 1) 16 3 a) 16 4 b) 16 5 c k = D k := fun a b c k z => by rw [u2_row _ _ z, u2_row _ _ z, u2_row _ _ z, u2_row _ _ z]
    exact lnI_mk (okP_L (okP_S (okP_L (okP_N (okP_step ok))))) (dfI_mk h1 ((en _ _ _ 1 (by decide)).trans h2) h3 ((en _ _ _ 6 (by decide)).trans h4) h5 ((en _ _ _ 8 (by decide)).trans h7) (Or.inr (e0 _ _ _))) ((congrFun (eb _ _ _ 14 (by decide)) 5).trans hl) ((eb _ _ _ 15 (by decide)).trans h15)
  · exact ⟨okP_fail ok, hD, hl, h15⟩
theorem raP_I {L : Nat} {T : Nat → Int32} {s : Ps} {D : Mi} (h : lnI L T (s, D)) : lnI L T (raP L s D) := by
  obtain ⟨ok, hD, hl, h15⟩ := h
  have hl : D 14 5 = nI L := hl
  have h15 : D 15 = T := h15
  have hD : dfI D := hD
  have ok : okP L s := ok
  obtain ⟨⟨h1, h2⟩, ⟨h3, h4⟩, ⟨h5, h7⟩, h8⟩ := id hD
  unfold raP
  split
  · rename_i hA8
    dsimp only
    have eb : ∀ a b c d e f k x, k < 19 → u2 (u2 (u2 (u2 (u2 (u2 (u2 D 16 6 x) (19 + cA D) 0 a) (19 + cA D) 1 b) (19 + cA D) 2 c) (19 + cA D) 3 d) (19 + cA D) 4 e) (19 + cA D) 5 f k = u2 D 16 6 x k := fun a b c d e f k x hk => by rw [u2_row _ _ (by omega), u2_row _ _ (by omega), u2_row _ _ (by omega), u2_row _ _ (by omega), u2_row _ _ (by omega), u2_row _ _ (by omega)]
    have en : ∀ a b c d e f x j, j ≠ 6 → u2 (u2 (u2 (u2 (u2 (u2 (u2 D 16 6 x) (19 + cA D) 0 a) (19 + cA D) 1 b) (19 + cA D) 2 c) (19 + cA D) 3 d) (19 + cA D) 4 e) (19 + cA D) 5 f 16 j = D 16 j := fun a b c d e f x j hj => by rw [eb _ _ _ _ _ _ 16 _ (by decide), u2_ne _ _ (by omega)]
    refine lnI_mk ?_ (dfI_mk h1 ((en _ _ _ _ _ _ _ 1 (by decide)).trans h2) (A := cA D + 1) (by omega) ((congrFun (eb _ _ _ _ _ _ 16 _ (by decide)) 6).trans (u2_eq _ _ _ _)) h5 ((en _ _ _ _ _ _ _ 8 (by decide)).trans h7) ?_) ((congrFun (eb _ _ _ _ _ _ 14 _ (by decide)) 5).trans ((congrFun (u2_row _ _ (by decide)) 5).trans hl)) ((eb _ _ _ _ _ _ 15 _ (by decide)).trans ((u2_row _ _ (by decide)).trans h15))
    · refine okP_C (okP_S ?_)
      split
      · exact okP_fail (okP_C (okP_N (okP_N (okP_step ok))))
      · exact okP_C (okP_N (okP_N (okP_step ok)))
    · rcases h8 with z | z
      · exact Or.inl ((en _ _ _ _ _ _ _ 0 (by decide)).trans z)
      · exact Or.inr ((en _ _ _ _ _ _ _ 0 (by decide)).trans z)
  · exact ⟨okP_fail ok, hD, hl, h15⟩
theorem rgP_I {L : Nat} {T : Nat → Int32} {s : Ps} {D : Mi} (h : lnI L T (s, D)) : lnI L T (rgP L s D) := by
  obtain ⟨ok, hD, hl, h15⟩ := h
  have hl : D 14 5 = nI L := hl
  have h15 : D 15 = T := h15
  have hD : dfI D := hD
  have ok : okP L s := ok
  obtain ⟨⟨h1, h2⟩, ⟨h3, h4⟩, ⟨h5, h7⟩, h8⟩ := id hD
  unfold rgP
  split
  · rename_i h16
    dsimp only
    split
    · exact ⟨okP_fail (okP_step ok), hD, hl, h15⟩
    · have en : ∀ x y z j, j ≠ 8 → u2 (u2 (u2 D 27 (cG D) x) 28 (cG D) y) 16 8 z 16 j = D 16 j := fun x y z j hj => by rw [u2_ne _ _ (by omega), u2_row _ _ (by decide), u2_row _ _ (by decide)]
      have eb : ∀ x y z k, k < 16 → u2 (u2 (u2 D 27 (cG D) x) 28 (cG D) y) 16 8 z k = D k := fun x y z k hk => by rw [u2_row _ _ (by omega), u2_row _ _ (by omega), u2_row _ _ (by omega)]
      refine lnI_mk (okP_T (okP_step (okP_step ok))) (dfI_mk h1 ((en _ _ _ 1 (by decide)).trans h2) h3 ((en _ _ _ 6 (by decide)).trans h4) (G := cG D + 1) (by omega) (u2_eq _ _ _ _) ?_) ((congrFun (eb _ _ _ 14 (by decide)) 5).trans hl) ((eb _ _ _ 15 (by decide)).trans h15)
      rcases h8 with z | z
      · exact Or.inl ((en _ _ _ 0 (by decide)).trans z)
      · exact Or.inr ((en _ _ _ 0 (by decide)).trans z)
  · exact ⟨okP_fail ok, hD, hl, h15⟩
theorem lnP_I {L : Nat} {T : Nat → Int32} {q : Ps × Mi} (h : lnI L T q) : lnI L T (lnP L q) := by
  unfold lnP
  split
  · exact rsP_I h
  · split
    · exact rbP_I h
    · split
      · exact raP_I h
      · split
        · exact rgP_I h
        · exact ⟨okP_fail h.1, h.2.1, h.2.2.1, h.2.2.2⟩
/-- the end of the text: what is left, what lacks -/
def enP (q : Ps × Mi) : Ps := if q.2 16 0 = 0 then failP (if q.1.2.2.1 = 0 then q.1 else failP q.1 1) 6 else (if q.1.2.2.1 = 0 then q.1 else failP q.1 1)
def rdsP (L : Nat) (q : Ps × Mi) : Ps × Mi := (enP (lpP L (L + 1) (stepP (q.2 15) L q.1, q.2)), (lpP L (L + 1) (stepP (q.2 15) L q.1, q.2)).2)
theorem laP_start {MI : Mi} {x : Int32} {a0 : Nat} (ha : MI 14 7 = nI a0) : u2 (u2 (u2 (u2 MI 14 5 x) 14 8 0) 14 3 0) 14 4 0 = laP (u2 MI 14 5 x) (0, 0, MI 14 6, a0, 0, MI 14 9, MI 14 10) := by
  funext b j
  by_cases hb : b = 14
  · subst hb
    by_cases h3 : j = 3
    · subst h3; rfl
    by_cases h4 : j = 4
    · subst h4; rfl
    by_cases h6 : j = 6
    · subst h6; rfl
    by_cases h7 : j = 7
    · subst h7; exact ha
    by_cases h8 : j = 8
    · subst h8; rfl
    by_cases h9 : j = 9
    · subst h9; rfl
    by_cases h10 : j = 10
    · subst h10; rfl
    rw [u2_ne _ _ (by omega), u2_ne _ _ (by omega), u2_ne _ _ (by omega)]
    unfold laP
    rw [if_pos rfl, if_neg h3, if_neg h4, if_neg h6, if_neg h7, if_neg h8, if_neg h9, if_neg h10]
  · rw [u2_ne _ _ (by omega), u2_ne _ _ (by omega), u2_ne _ _ (by omega), laP_b _ hb]
section reader5
variable {X : xG} {n : Nat} {MI D : Nat → Nat → Int32} {ML : Nat → Nat → Int64} {MR : Nat → Nat → Option Nat} {s : Ps} {L : Nat}
set_option maxRecDepth 100000 in
theorem c_X6_reads (hM : x_Lay MR) (hS2 : x_S2 X) (hL : L ≤ 600) {a0 : Nat} (ha : MI 14 7 = nI a0) {q : Ps × Mi} (hq : q = rdsP L ((0, 0, MI 14 6, a0, 0, MI 14 9, MI 14 10), clearM (u2 MI 14 5 (nI L)) 16)) : Cf X yX6_reads cX6_reads 4 (some .boolean) 9 [.ref 14, .int (nI L)] n SH MI ML MR (some (.int (if q.1.1 = 0 then 1 else 0))) (laP q.2 q.1) ML MR := by
  obtain ⟨s0, hs0⟩ : ∃ s0 : Ps, s0 = (0, 0, MI 14 6, a0, 0, MI 14 9, MI 14 10) := ⟨_, rfl⟩
  obtain ⟨D0, hD0⟩ : ∃ D0, D0 = clearM (u2 MI 14 5 (nI L)) 16 := ⟨_, rfl⟩
  rw [← hs0, ← hD0] at hq
  have b0 : ∀ c, c ≠ 16 → D0 c = u2 MI 14 5 (nI L) c := fun c h => by
    rw [hD0]
    unfold clearM
    rw [u2_row _ _ h, u2_row _ _ h, u2_row _ _ h, u2_row _ _ h, u2_row _ _ h, u2_row _ _ h, u2_row _ _ h]
  have hl0 : D0 14 5 = nI L := by rw [b0 14 (by decide), u2_eq]
  have h15 : D0 15 = MI 15 := by rw [b0 15 (by decide), u2_row _ _ (by decide)]
  have hm0 : clearM (u2 (u2 (u2 (u2 MI 14 5 (nI L)) 14 8 0) 14 3 0) 14 4 0) 16 = laP D0 s0 := by
    have e : u2 (u2 (u2 (u2 MI 14 5 (nI L)) 14 8 0) 14 3 0) 14 4 0 = laP (u2 MI 14 5 (nI L)) s0 := by
      rw [hs0]
      exact laP_start ha
    rw [e, hD0]
    unfold clearM
    rw [laP_D s0 (by decide), laP_D s0 (by decide), laP_D s0 (by decide), laP_D s0 (by decide), laP_D s0 (by decide), laP_D s0 (by decide), laP_D s0 (by decide)]
  have hdf : dfI D0 := by
    have z : ∀ j, j = 0 ∨ j = 1 ∨ j = 6 ∨ j = 8 → D0 16 j = 0 := fun j hj => by
      rw [hD0]
      unfold clearM
      simp only [u2]
      grind
    refine ⟨⟨?_, ?_⟩, ⟨?_, ?_⟩, ⟨?_, ?_⟩, Or.inl (z 0 (by decide))⟩
    · unfold cS; rw [z 1 (by decide)]; decide
    · unfold cS; rw [z 1 (by decide)]; decide
    · unfold cA; rw [z 6 (by decide)]; decide
    · unfold cA; rw [z 6 (by decide)]; decide
    · unfold cG; rw [z 8 (by decide)]; decide
    · unfold cG; rw [z 8 (by decide)]; decide
  have hI0 : lnI L (MI 15) (stepP (D0 15) L s0, D0) := by
    refine ⟨?_, hdf, hl0, h15⟩
    have h1 := tkS_le (T := D0 15) (L := L) (p := s0.2.2.2.2.1) (by rw [hs0]; exact Nat.zero_le _)
    have h2 := tokQ_le (T := D0 15) h1.2
    exact ⟨h2.1, h2.2⟩
  obtain ⟨p0, hp0⟩ : ∃ p0 : Ps × Mi, p0 = (stepP (D0 15) L s0, D0) := ⟨_, rfl⟩
  rw [← hp0] at hI0
  obtain ⟨pe, hpe⟩ : ∃ pe, pe = lpP L (L + 1) p0 := ⟨_, rfl⟩
  have hq2 : q = (enP pe, pe.2) := by rw [hq, hpe, hp0]; rfl
  rw [hq2]
  refine Ct_of (by decide) (Nat.le_of_ble_eq_true rfl) (fun G hG => ?_)
  have j152 : RW X G RX6 cX6_reads 4 (x_rm 9 0 0) n SH (laP pe.2 pe.1) ML MR 0 0 152 [(0, .ref 14)] [] := by
    obtain ⟨t1, ht1⟩ : ∃ t1, t1 = if pe.1.2.2.1 = 0 then pe.1 else failP pe.1 1 := ⟨_, rfl⟩
    have hen : enP pe = if pe.2 16 0 = 0 then failP t1 6 else t1 := by rw [ht1]; rfl
    have j180 : RW X G RX6 cX6_reads 4 (x_rm 9 0 0) n SH (laP pe.2 (enP pe)) ML MR 0 0 180 [(0, .ref 14)] [] := by
      refine r_aload_n 0 rfl dX6_reads_180 ?_
      refine r_geti dX6_reads_181 fl_X6_32 rfl ?_
      refine r_ifne (tgt := 191) dX6_reads_184 (by decide) (fun zh184 => ?_) (fun zh184 => ?_)
      · refine r_iconst (v := 0) rfl dX6_reads_191 ?_
        exact r_zret hG dX6_reads_192 (rfl) (⟨by rw [laP_f] at zh184; simp [zh184], rfl, rfl, rfl⟩)
      · refine r_iconst (v := 1) rfl dX6_reads_187 ?_
        refine r_goto (tgt := 192) dX6_reads_188 (by decide) ?_
        exact r_zret hG dX6_reads_192 (rfl) (⟨by rw [laP_f] at zh184; simp [zh184], rfl, rfl, rfl⟩)
    have j164 : RW X G RX6 cX6_reads 4 (x_rm 9 0 0) n SH (laP pe.2 t1) ML MR 0 0 164 [(0, .ref 14)] [] := by
      refine r_aload_n 0 rfl dX6_reads_164 ?_
      refine r_getr dX6_reads_165 fl_X6_18 rfl (hM _ _ _ rfl) ?_
      refine r_geti dX6_reads_168 fl_X6_79 rfl ?_
      refine r_ifne (tgt := 180) dX6_reads_171 (by decide) (fun zh171 => ?_) (fun zh171 => ?_)
      · first
          | (rw [laP_b _ (show (16 : Nat) ≠ 14 by decide)] at zh171; rw [if_neg zh171] at hen; rw [← hen]; exact j180)
          | (rw [if_pos zh171] at hen; rw [← hen]; exact j180)
      · rw [laP_b _ (show (16 : Nat) ≠ 14 by decide)] at zh171
        refine r_aload_n 0 rfl dX6_reads_174 ?_
        refine r_bipush (v := 6) rfl dX6_reads_175 ?_
        refine r_Vn [.int _] dX6_reads_177 lk_X6_68 mb_X6_fail in_X6_fail se_X6_fail rfl (c_X6_fail) rfl rfl rfl (Nat.le_of_ble_eq_true rfl) (rfl) ?_
        first
          | (rw [laP_b _ (show (16 : Nat) ≠ 14 by decide)] at zh171; rw [if_neg zh171] at hen; rw [← hen]; exact j180)
          | (rw [if_pos zh171] at hen; rw [← hen]; exact j180)
    refine r_aload_n 0 rfl dX6_reads_152 ?_
    refine r_geti dX6_reads_153 fl_X6_76 rfl ?_
    refine r_ifeq (tgt := 164) dX6_reads_156 (by decide) (fun zh156 => ?_) (fun zh156 => ?_)
    · rw [laP_k] at zh156
      first
        | (rw [if_pos zh156] at ht1; rw [← ht1]; exact j164)
        | (rw [if_neg zh156] at ht1; rw [← ht1]; exact j164)
    · refine r_aload_n 0 rfl dX6_reads_159 ?_
      refine r_iconst (v := 1) rfl dX6_reads_160 ?_
      refine r_Vn [.int _] dX6_reads_161 lk_X6_68 mb_X6_fail in_X6_fail se_X6_fail rfl (c_X6_fail) rfl rfl rfl (Nat.le_of_ble_eq_true rfl) (rfl) ?_
      rw [laP_k] at zh156
      first
        | (rw [if_pos zh156] at ht1; rw [← ht1]; exact j164)
        | (rw [if_neg zh156] at ht1; rw [← ht1]; exact j164)
  have loop : ∀ k, k ≤ L + 1 → ∀ p : Ps × Mi, lnI L (MI 15) p → pe = lpP L (L + 1 - k) p → RW X G RX6 cX6_reads 4 (x_rm 9 0 0) n SH (laP p.2 p.1) ML MR 0 0 35 [(3, .int (nI k)), (2, .int 1), (0, .ref 14)] [] := by
    refine bwd (fun k hk ih p hI he => ?_)
    obtain ⟨ok, hD, hl, hT⟩ := id hI
    obtain ⟨p1, hp1⟩ : ∃ p1, p1 = lnP L p := ⟨_, rfl⟩
    have hI1 : lnI L (MI 15) p1 := by rw [hp1]; exact lnP_I hI
    obtain ⟨ok1, hD1, hl1, hT1⟩ := id hI1
    have hstep : k ≤ L → lpP L (L + 1 - k) p = if p1.1.1 = 0 ∧ sgnP (p1.2 15) L p1.1 59 = true then lpP L (L + 1 - (k + 1)) (stepP (p1.2 15) L p1.1, p1.2) else p1 := fun h => by rw [show L + 1 - k = (L + 1 - (k + 1)) + 1 by omega, lpP, hp1]
    have hLk : laP p.2 p.1 14 5 = nI L := hl
    have hI2 : lnI L (MI 15) (stepP (p1.2 15) L p1.1, p1.2) := ⟨okP_step ok1, hD1, hl1, hT1⟩
    have j116 : k ≤ L → RW X G RX6 cX6_reads 4 (x_rm 9 0 0) n SH (laP p1.2 p1.1) ML MR 0 0 116 [(3, .int (nI k)), (2, .int 1), (0, .ref 14)] [] := by
      intro hkL
      have j137 : ∀ b : Int32, b = (if p1.1.1 = 0 ∧ sgnP (p1.2 15) L p1.1 59 = true then 1 else 0) → RW X G RX6 cX6_reads 4 (x_rm 9 0 0) n SH (laP p1.2 p1.1) ML MR 0 0 137 [(3, .int (nI k)), (2, .int 1), (0, .ref 14)] [.int b] := by
        intro b hb
        by_cases hz : p1.1.1 = 0 ∧ sgnP (p1.2 15) L p1.1 59 = true
        · rw [if_pos hz] at hb
          subst hb
          refine r_istore_n (ls2 := [(2, .int 1), (3, .int (nI k)), (0, .ref 14)]) dX6_reads_137 (by decide) rfl ?_
          refine r_iload_n 0 rfl dX6_reads_138 ?_
          refine r_ifeq (tgt := 146) dX6_reads_139 (by decide) (fun zh139 => ?_) (fun zh139 => ?_)
          · exact absurd zh139 (fun q => absurd q (by decide))
          refine r_aload_n 2 rfl dX6_reads_142 ?_
          refine r_Vn [] dX6_reads_143 lk_X6_41 mb_X6_step in_X6_step se_X6_step rfl (c_X6_step hM hS2 hL hl1 ok1) rfl rfl rfl (Nat.le_of_ble_eq_true rfl) (rfl) ?_
          refine r_iinc (v := (nI (k + 1))) (ls2 := [(3, .int (nI (k + 1))), (2, .int 1), (0, .ref 14)]) 1 dX6_reads_146 rfl (x_inc k) (by decide) rfl ?_
          refine r_goto (tgt := 35) dX6_reads_149 (by decide) ?_
          exact r_sub [0, 1, 2] rfl (ih (by omega) (stepP (p1.2 15) L p1.1, p1.2) hI2 (by rw [he, hstep hkL, if_pos hz]))
        · rw [if_neg hz] at hb
          subst hb
          have hee : pe = p1 := by rw [he, hstep hkL, if_neg hz]
          refine r_istore_n (ls2 := [(2, .int 0), (3, .int (nI k)), (0, .ref 14)]) dX6_reads_137 (by decide) rfl ?_
          refine r_iload_n 0 rfl dX6_reads_138 ?_
          refine r_ifeq (tgt := 146) dX6_reads_139 (by decide) (fun zh139 => ?_) (fun zh139 => ?_)
          rotate_left
          · exact absurd zh139 (fun q => q rfl)
          refine r_iinc (v := (nI (k + 1))) (ls2 := [(3, .int (nI (k + 1))), (2, .int 0), (0, .ref 14)]) 1 dX6_reads_146 rfl (x_inc k) (by decide) rfl ?_
          refine r_goto (tgt := 35) dX6_reads_149 (by decide) ?_
          refine r_iload_n 0 rfl dX6_reads_35 ?_
          refine r_aload_n 2 rfl dX6_reads_36 ?_
          refine r_geti dX6_reads_37 fl_X6_26 rfl ?_
          refine r_icmpgt (tgt := 152) dX6_reads_40 (by decide) (fun zh40 => ?_) (fun zh40 => ?_)
          · rw [← hee]
            exact r_sub [2] rfl j152
          · refine r_iload_n 1 rfl dX6_reads_43 ?_
            refine r_ifeq (tgt := 152) dX6_reads_44 (by decide) (fun zh44 => ?_) (fun zh44 => ?_)
            rotate_left
            · exact absurd zh44 (fun q => q rfl)
            rw [← hee]
            exact r_sub [2] rfl j152
      refine r_aload_n 2 rfl dX6_reads_116 ?_
      refine r_geti dX6_reads_117 fl_X6_32 rfl ?_
      refine r_ifne (tgt := 136) dX6_reads_120 (by decide) (fun zh120 => ?_) (fun zh120 => ?_)
      · refine r_iconst (v := 0) rfl dX6_reads_136 ?_
        rw [laP_f] at zh120
        first
          | exact j137 _ (by rw [if_neg (fun z => zh120 z.1)])
          | exact j137 _ (by simp_all)
      · refine r_aload_n 2 rfl dX6_reads_123 ?_
        refine r_bipush (v := 59) rfl dX6_reads_124 ?_
        refine r_Vf [.int _] dX6_reads_126 lk_X6_72 mb_X6_isSign in_X6_isSign se_X6_isSign rfl (c_X6_isSign hM hL hl1 ok1) rfl rfl rfl (Nat.le_of_ble_eq_true rfl) (rfl) ?_
        refine r_ifeq (tgt := 136) dX6_reads_129 (by decide) (fun zh129 => ?_) (fun zh129 => ?_)
        · refine r_iconst (v := 0) rfl dX6_reads_136 ?_
          rw [laP_f] at zh120
          first
            | exact j137 _ (by rw [if_neg (fun z => zh120 z.1)])
            | exact j137 _ (by simp_all)
        · refine r_iconst (v := 1) rfl dX6_reads_132 ?_
          refine r_goto (tgt := 137) dX6_reads_133 (by decide) ?_
          rw [laP_f] at zh120
          first
            | exact j137 _ (by rw [if_neg (fun z => zh120 z.1)])
            | exact j137 _ (by simp_all)
    refine r_iload_n 0 rfl dX6_reads_35 ?_
    refine r_aload_n 2 rfl dX6_reads_36 ?_
    refine r_geti dX6_reads_37 fl_X6_26 rfl ?_
    refine r_icmpgt (tgt := 152) dX6_reads_40 (by decide) (fun zh40 => ?_) (fun zh40 => ?_)
    · rw [hLk] at zh40
      have h9 : L < k := (nI_ltI (by omega) (by omega)).mp zh40
      have hee : pe = p := by rw [he, show L + 1 - k = 0 by omega]; rfl
      rw [← hee]
      exact r_sub [2] rfl j152
    · rw [hLk] at zh40
      have hkL : k ≤ L := Nat.not_lt.mp fun z => zh40 (nI_lt z (by omega))
      refine r_iload_n 1 rfl dX6_reads_43 ?_
      refine r_ifeq (tgt := 152) dX6_reads_44 (by decide) (fun zh44 => ?_) (fun zh44 => ?_)
      · exact absurd zh44 (fun q => absurd q (by decide))
      refine r_aload_n 2 rfl dX6_reads_47 ?_
      refine r_ldcS (k0 := 1001) sr_X6_44 (by decide) dX6_reads_48 ?_
      refine r_Vf [.ref _] dX6_reads_50 lk_X6_46 mb_X6_isWord in_X6_isWord se_X6_isWord rfl (c_X6_isWord hM hS2 hL hl ok (i := 0) (by decide)) rfl rfl rfl (Nat.le_of_ble_eq_true rfl) (rfl) ?_
      skip
      refine r_ifeq (tgt := 63) dX6_reads_53 (by decide) (fun zh53 => ?_) (fun zh53 => ?_)
      · refine r_aload_n 2 rfl dX6_reads_63 ?_
        refine r_ldcS (k0 := 1002) sr_X6_53 (by decide) dX6_reads_64 ?_
        refine r_Vf [.ref _] dX6_reads_66 lk_X6_46 mb_X6_isWord in_X6_isWord se_X6_isWord rfl (c_X6_isWord hM hS2 hL hl ok (i := 1) (by decide)) rfl rfl rfl (Nat.le_of_ble_eq_true rfl) (rfl) ?_
        refine r_ifeq (tgt := 79) dX6_reads_69 (by decide) (fun zh69 => ?_) (fun zh69 => ?_)
        · refine r_aload_n 2 rfl dX6_reads_79 ?_
          refine r_ldcS (k0 := 1003) sr_X6_58 (by decide) dX6_reads_80 ?_
          refine r_Vf [.ref _] dX6_reads_82 lk_X6_46 mb_X6_isWord in_X6_isWord se_X6_isWord rfl (c_X6_isWord hM hS2 hL hl ok (i := 2) (by decide)) rfl rfl rfl (Nat.le_of_ble_eq_true rfl) (rfl) ?_
          refine r_ifeq (tgt := 95) dX6_reads_85 (by decide) (fun zh85 => ?_) (fun zh85 => ?_)
          · refine r_aload_n 2 rfl dX6_reads_95 ?_
            refine r_ldcS (k0 := 1004) sr_X6_63 (by decide) dX6_reads_96 ?_
            refine r_Vf [.ref _] dX6_reads_98 lk_X6_46 mb_X6_isWord in_X6_isWord se_X6_isWord rfl (c_X6_isWord hM hS2 hL hl ok (i := 3) (by decide)) rfl rfl rfl (Nat.le_of_ble_eq_true rfl) (rfl) ?_
            refine r_ifeq (tgt := 111) dX6_reads_101 (by decide) (fun zh101 => ?_) (fun zh101 => ?_)
            · refine r_aload_n 2 rfl dX6_reads_111 ?_
              refine r_iconst (v := 1) rfl dX6_reads_112 ?_
              refine r_Vn [.int _] dX6_reads_113 lk_X6_68 mb_X6_fail in_X6_fail se_X6_fail rfl (c_X6_fail) rfl rfl rfl (Nat.le_of_ble_eq_true rfl) (rfl) ?_
              refine r_mem ?_ rfl rfl (j116 hkL)
              rw [hp1]
              unfold lnP
              first
                | (rw [if_pos (show wrdP (p.2 15) L p.1 0 = true by simpa using zh53)]; done)
                | (rw [if_neg (show ¬ wrdP (p.2 15) L p.1 0 = true by simpa using zh53), if_pos (show wrdP (p.2 15) L p.1 1 = true by simpa using zh69)]; done)
                | (rw [if_neg (show ¬ wrdP (p.2 15) L p.1 0 = true by simpa using zh53), if_neg (show ¬ wrdP (p.2 15) L p.1 1 = true by simpa using zh69), if_pos (show wrdP (p.2 15) L p.1 2 = true by simpa using zh85)]; done)
                | (rw [if_neg (show ¬ wrdP (p.2 15) L p.1 0 = true by simpa using zh53), if_neg (show ¬ wrdP (p.2 15) L p.1 1 = true by simpa using zh69), if_neg (show ¬ wrdP (p.2 15) L p.1 2 = true by simpa using zh85), if_pos (show wrdP (p.2 15) L p.1 3 = true by simpa using zh101)]; done)
                | (rw [if_neg (show ¬ wrdP (p.2 15) L p.1 0 = true by simpa using zh53), if_neg (show ¬ wrdP (p.2 15) L p.1 1 = true by simpa using zh69), if_neg (show ¬ wrdP (p.2 15) L p.1 2 = true by simpa using zh85), if_neg (show ¬ wrdP (p.2 15) L p.1 3 = true by simpa using zh101)]; done)
            · refine r_aload_n 2 rfl dX6_reads_104 ?_
              refine r_Vn [] dX6_reads_105 lk_X6_65 mb_X6_readGate in_X6_readGate se_X6_readGate rfl (c_X6_readGate hM hS2 hL hl ok hD) rfl rfl rfl (Nat.le_of_ble_eq_true rfl) (rfl) ?_
              refine r_goto (tgt := 116) dX6_reads_108 (by decide) ?_
              refine r_mem ?_ rfl rfl (j116 hkL)
              rw [hp1]
              unfold lnP
              first
                | (rw [if_pos (show wrdP (p.2 15) L p.1 0 = true by simpa using zh53)]; done)
                | (rw [if_neg (show ¬ wrdP (p.2 15) L p.1 0 = true by simpa using zh53), if_pos (show wrdP (p.2 15) L p.1 1 = true by simpa using zh69)]; done)
                | (rw [if_neg (show ¬ wrdP (p.2 15) L p.1 0 = true by simpa using zh53), if_neg (show ¬ wrdP (p.2 15) L p.1 1 = true by simpa using zh69), if_pos (show wrdP (p.2 15) L p.1 2 = true by simpa using zh85)]; done)
                | (rw [if_neg (show ¬ wrdP (p.2 15) L p.1 0 = true by simpa using zh53), if_neg (show ¬ wrdP (p.2 15) L p.1 1 = true by simpa using zh69), if_neg (show ¬ wrdP (p.2 15) L p.1 2 = true by simpa using zh85), if_pos (show wrdP (p.2 15) L p.1 3 = true by simpa using zh101)]; done)
                | (rw [if_neg (show ¬ wrdP (p.2 15) L p.1 0 = true by simpa using zh53), if_neg (show ¬ wrdP (p.2 15) L p.1 1 = true by simpa using zh69), if_neg (show ¬ wrdP (p.2 15) L p.1 2 = true by simpa using zh85), if_neg (show ¬ wrdP (p.2 15) L p.1 3 = true by simpa using zh101)]; done)
          · refine r_aload_n 2 rfl dX6_reads_88 ?_
            refine r_Vn [] dX6_reads_89 lk_X6_60 mb_X6_readArc in_X6_readArc se_X6_readArc rfl (c_X6_readArc hM hS2 hL hl ok hD) rfl rfl rfl (Nat.le_of_ble_eq_true rfl) (rfl) ?_
            refine r_goto (tgt := 116) dX6_reads_92 (by decide) ?_
            refine r_mem ?_ rfl rfl (j116 hkL)
            rw [hp1]
            unfold lnP
            first
              | (rw [if_pos (show wrdP (p.2 15) L p.1 0 = true by simpa using zh53)]; done)
              | (rw [if_neg (show ¬ wrdP (p.2 15) L p.1 0 = true by simpa using zh53), if_pos (show wrdP (p.2 15) L p.1 1 = true by simpa using zh69)]; done)
              | (rw [if_neg (show ¬ wrdP (p.2 15) L p.1 0 = true by simpa using zh53), if_neg (show ¬ wrdP (p.2 15) L p.1 1 = true by simpa using zh69), if_pos (show wrdP (p.2 15) L p.1 2 = true by simpa using zh85)]; done)
              | (rw [if_neg (show ¬ wrdP (p.2 15) L p.1 0 = true by simpa using zh53), if_neg (show ¬ wrdP (p.2 15) L p.1 1 = true by simpa using zh69), if_neg (show ¬ wrdP (p.2 15) L p.1 2 = true by simpa using zh85), if_pos (show wrdP (p.2 15) L p.1 3 = true by simpa using zh101)]; done)
              | (rw [if_neg (show ¬ wrdP (p.2 15) L p.1 0 = true by simpa using zh53), if_neg (show ¬ wrdP (p.2 15) L p.1 1 = true by simpa using zh69), if_neg (show ¬ wrdP (p.2 15) L p.1 2 = true by simpa using zh85), if_neg (show ¬ wrdP (p.2 15) L p.1 3 = true by simpa using zh101)]; done)
        · refine r_aload_n 2 rfl dX6_reads_72 ?_
          refine r_Vn [] dX6_reads_73 lk_X6_55 mb_X6_readBegin in_X6_readBegin se_X6_readBegin rfl (c_X6_readBegin hM hS2 hL hl ok) rfl rfl rfl (Nat.le_of_ble_eq_true rfl) (rfl) ?_
          refine r_goto (tgt := 116) dX6_reads_76 (by decide) ?_
          refine r_mem ?_ rfl rfl (j116 hkL)
          rw [hp1]
          unfold lnP
          first
            | (rw [if_pos (show wrdP (p.2 15) L p.1 0 = true by simpa using zh53)]; done)
            | (rw [if_neg (show ¬ wrdP (p.2 15) L p.1 0 = true by simpa using zh53), if_pos (show wrdP (p.2 15) L p.1 1 = true by simpa using zh69)]; done)
            | (rw [if_neg (show ¬ wrdP (p.2 15) L p.1 0 = true by simpa using zh53), if_neg (show ¬ wrdP (p.2 15) L p.1 1 = true by simpa using zh69), if_pos (show wrdP (p.2 15) L p.1 2 = true by simpa using zh85)]; done)
            | (rw [if_neg (show ¬ wrdP (p.2 15) L p.1 0 = true by simpa using zh53), if_neg (show ¬ wrdP (p.2 15) L p.1 1 = true by simpa using zh69), if_neg (show ¬ wrdP (p.2 15) L p.1 2 = true by simpa using zh85), if_pos (show wrdP (p.2 15) L p.1 3 = true by simpa using zh101)]; done)
            | (rw [if_neg (show ¬ wrdP (p.2 15) L p.1 0 = true by simpa using zh53), if_neg (show ¬ wrdP (p.2 15) L p.1 1 = true by simpa using zh69), if_neg (show ¬ wrdP (p.2 15) L p.1 2 = true by simpa using zh85), if_neg (show ¬ wrdP (p.2 15) L p.1 3 = true by simpa using zh101)]; done)
      · refine r_aload_n 2 rfl dX6_reads_56 ?_
        refine r_Vn [] dX6_reads_57 lk_X6_50 mb_X6_readState in_X6_readState se_X6_readState rfl (c_X6_readState hM hS2 hL hl ok hD) rfl rfl rfl (Nat.le_of_ble_eq_true rfl) (rfl) ?_
        refine r_goto (tgt := 116) dX6_reads_60 (by decide) ?_
        refine r_mem ?_ rfl rfl (j116 hkL)
        rw [hp1]
        unfold lnP
        first
          | (rw [if_pos (show wrdP (p.2 15) L p.1 0 = true by simpa using zh53)]; done)
          | (rw [if_neg (show ¬ wrdP (p.2 15) L p.1 0 = true by simpa using zh53), if_pos (show wrdP (p.2 15) L p.1 1 = true by simpa using zh69)]; done)
          | (rw [if_neg (show ¬ wrdP (p.2 15) L p.1 0 = true by simpa using zh53), if_neg (show ¬ wrdP (p.2 15) L p.1 1 = true by simpa using zh69), if_pos (show wrdP (p.2 15) L p.1 2 = true by simpa using zh85)]; done)
          | (rw [if_neg (show ¬ wrdP (p.2 15) L p.1 0 = true by simpa using zh53), if_neg (show ¬ wrdP (p.2 15) L p.1 1 = true by simpa using zh69), if_neg (show ¬ wrdP (p.2 15) L p.1 2 = true by simpa using zh85), if_pos (show wrdP (p.2 15) L p.1 3 = true by simpa using zh101)]; done)
          | (rw [if_neg (show ¬ wrdP (p.2 15) L p.1 0 = true by simpa using zh53), if_neg (show ¬ wrdP (p.2 15) L p.1 1 = true by simpa using zh69), if_neg (show ¬ wrdP (p.2 15) L p.1 2 = true by simpa using zh85), if_neg (show ¬ wrdP (p.2 15) L p.1 3 = true by simpa using zh101)]; done)
  refine r_aload_n 0 rfl dX6_reads_0 ?_
  refine r_iload_n 1 rfl dX6_reads_1 ?_
  refine r_puti dX6_reads_2 fl_X6_26 rfl rfl rfl ?_
  refine r_aload_n 0 rfl dX6_reads_5 ?_
  refine r_iconst (v := 0) rfl dX6_reads_6 ?_
  refine r_puti dX6_reads_7 fl_X6_29 rfl rfl rfl ?_
  refine r_aload_n 0 rfl dX6_reads_10 ?_
  refine r_iconst (v := 0) rfl dX6_reads_11 ?_
  refine r_puti dX6_reads_12 fl_X6_32 rfl rfl rfl ?_
  refine r_aload_n 0 rfl dX6_reads_15 ?_
  refine r_iconst (v := 0) rfl dX6_reads_16 ?_
  refine r_puti dX6_reads_17 fl_X6_35 rfl rfl rfl ?_
  refine r_aload_n 0 rfl dX6_reads_20 ?_
  refine r_getr dX6_reads_21 fl_X6_18 rfl (hM _ _ _ rfl) ?_
  refine r_Vn [] dX6_reads_24 lk_X6_38 mb_X5_clear in_X5_clear se_X5_clear rfl (c_X5_clear_16) rfl rfl rfl (Nat.le_of_ble_eq_true rfl) (rfl) ?_
  rw [hm0]
  refine r_aload_n 0 rfl dX6_reads_27 ?_
  refine r_Vn [] dX6_reads_28 lk_X6_41 mb_X6_step in_X6_step se_X6_step rfl (c_X6_step0 hM hS2 hL hl0 (by rw [hs0]; exact Nat.zero_le _)) rfl rfl rfl (Nat.le_of_ble_eq_true rfl) (rfl) ?_
  refine r_iconst (v := 1) rfl dX6_reads_31 ?_
  refine r_istore_n (ls2 := [(2, .int 1), (0, .ref 14), (1, .int (nI L))]) dX6_reads_32 (by decide) rfl ?_
  refine r_iconst (v := 0) rfl dX6_reads_33 ?_
  refine r_istore_n (ls2 := [(3, .int 0), (2, .int 1), (0, .ref 14), (1, .int (nI L))]) dX6_reads_34 (by decide) rfl ?_
  refine r_mem (MI2 := laP p0.2 p0.1) (by rw [hp0]) rfl rfl (r_sub [0, 1, 2] rfl (loop 0 (by omega) p0 hI0 hpe))
end reader5

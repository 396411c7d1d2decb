/-! the desk: harm, runs by gates, codes, last -/
def gtP (MI : Mi) (ML : Nat → Nat → Int64) (x : Int32) (w : Int64) (k : Nat) : Bool := (List.range k).any (fun g => decide (MI 12 g = x) && decide (w &&& (ptsV ML (MI 13 g) ^^^ -1) = 0))
theorem gtP_s (MI : Mi) (ML : Nat → Nat → Int64) (x : Int32) (w : Int64) (k : Nat) : gtP MI ML x w (k + 1) = (gtP MI ML x w k || (decide (MI 12 k = x) && decide (w &&& (ptsV ML (MI 13 k) ^^^ -1) = 0))) := by
  unfold gtP
  rw [List.range_succ, List.any_append]
  simp
theorem gtP_t {MI : Mi} {ML : Nat → Nat → Int64} {x : Int32} {w : Int64} {k : Nat} (h : gtP MI ML x w k = true) : ∀ j, gtP MI ML x w (k + j) = true
  | 0 => h
  | j + 1 => by rw [show k + (j + 1) = (k + j) + 1 by omega, gtP_s, gtP_t h j]; rfl
def hdA (MI : Mi) (ML : Nat → Nat → Int64) (x : Int32) (Gn : Nat) (L : List Int32) : Bool := L.all (fun c => gtP MI ML x (ptsV ML c) Gn)
def hmS (MI : Mi) (ML : Nat → Nat → Int64) (x : Int32) (bu bo fm z : Int64) (fl : Bool) : Nat → Int32
  | 0 => 0
  | k + 1 =>
    let h := hmS MI ML x bu bo fm z fl k
    if MI 12 k = x then
      let h1 := if ptsV ML (MI 13 k) &&& bo &&& z = 0 then h else h ||| 1
      if fl = true ∧ ¬ ptsV ML (MI 13 k) &&& bu = 0 ∧ ptsV ML (MI 13 k) &&& fm = 0 then h1 ||| 4 else h1
    else h
/-- HARM by an ARC -/
def hmV (MI : Mi) (ML : Nat → Nat → Int64) (Gn f i : Nat) : Int32 :=
  let h := hmS MI ML (nI f) (ptsV ML (MI 51 i)) (ptsV ML (MI 51 i) ||| ptsV ML (MI 52 i)) (ptL (MI 53 i)) (ML 49 f) (fallV (MI 54) (MI 55) (nI f) (nI i)) Gn
  if hdA MI ML (nI f) Gn (frMI MI (nI i) (nI f)) = true then h else h ||| 2
def fdM6 (MI : Mi) (f i : Nat) : Mi := sr MI 56 (layL (MI 56) (frMI MI (nI i) (nI f)))
section class2
variable {X : xG} {n : Nat} {MI : Nat → Nat → Int32} {ML : Nat → Nat → Int64} {MR : Nat → Nat → Option Nat}
set_option maxRecDepth 100000 in
theorem c_X10_burstOf (hM : x_Lay MR) {i : Nat} (hi : i < 8) : Cf X yX10_burstOf cX10_burstOf 2 (some .long) 2 [.ref 0, .int (nI i)] n SH MI ML MR (some (.long (ptsV ML (MI 51 i)))) MI ML MR := by
  refine Ct_of (by decide) (Nat.le_of_ble_eq_true rfl) (fun G hG => ?_)
  refine r_aload_n 0 rfl dX10_burstOf_0 ?_
  refine r_getr dX10_burstOf_1 fl_X10_42 rfl (hM _ _ _ rfl) ?_
  refine r_aload_n 0 rfl dX10_burstOf_4 ?_
  refine r_getr dX10_burstOf_5 fl_X10_35 rfl (hM _ _ _ rfl) ?_
  refine r_getr dX10_burstOf_8 fl_X10_343 rfl (hM _ _ _ rfl) ?_
  refine r_iload_n 1 rfl dX10_burstOf_11 ?_
  refine r_Sf [.ref _, .int _] dX10_burstOf_12 lk_X10_140 mb_X10_pick sc_X10_pick rfl (c_X10_pick (N := 8) rfl (by decide)) rfl (Nat.le_of_ble_eq_true rfl) (rfl) ?_
  refine r_Vf [.int _] dX10_burstOf_15 lk_X10_210 mb_X2_pointsOf in_X2_pointsOf se_X2_pointsOf rfl (c_X2_pointsOf hM) rfl rfl rfl (Nat.le_of_ble_eq_true rfl) (rfl) ?_
  exact r_lret hG dX10_burstOf_18 (⟨by rw [pickV_nI _ hi (by decide)], rfl, rfl, rfl⟩)
set_option maxRecDepth 100000 in
theorem c_X10_holdsAll (hM : x_Lay MR) {Gn f i : Nat} (hGn16 : Gn ≤ 16) (hGr : MI 1 8 = nI Gn) (hf : f < 5) (hi : i < 8) : Cf X yX10_holdsAll cX10_holdsAll 9 (some .boolean) 4 [.ref 0, .int (nI f), .int (nI i)] n SH MI ML MR (some (.int (b2 (hdA MI ML (nI f) Gn (frMI MI (nI i) (nI f)))))) (fdM6 MI f i) ML MR := by
  obtain ⟨L, hL⟩ : ∃ L, L = frMI MI (nI i) (nI f) := ⟨_, rfl⟩
  have hlen : L.length ≤ 4 := by rw [hL]; exact frq_len _ _ _ _ _ _ _
  obtain ⟨W, hW⟩ : ∃ W, W = fdM6 MI f i := ⟨_, rfl⟩
  have wb : ∀ b, b ≠ 56 → W b = MI b := fun b h => by rw [hW]; exact sr_ne _ _ h
  have w56 : W 56 = layL (MI 56) L := by rw [hW, hL]; exact sr_eq _ _ _
  have wG : W 1 8 = nI Gn := by rw [wb 1 (by decide)]; exact hGr
  have hgt : ∀ w k, gtP W ML (nI f) w k = gtP MI ML (nI f) w k := fun w k => by unfold gtP; rw [wb 12 (by decide), wb 13 (by decide)]
  rw [← hL, ← hW]
  refine Ct_of (by decide) (Nat.le_of_ble_eq_true rfl) (fun G hG => ?_)
  have outer : ∀ k, k ≤ L.length → (∀ j, j < k → gtP W ML (nI f) (ptsV ML (L.getD j 0)) Gn = true) → RW X G RX10 cX10_holdsAll 9 (x_rm 4 0 0) n SH W ML MR 0 0 13 [(4, .int (nI k)), (3, .int (nI L.length)), (0, .ref 0), (1, .int (nI f)), (2, .int (nI i))] [] := by
    refine bwd (fun k hk ih hall => ?_)
    have inner : k < L.length → ∀ w, w = ptsV ML (L.getD k 0) → ∀ g, g ≤ Gn → RW X G RX10 cX10_holdsAll 9 (x_rm 4 0 0) n SH W ML MR 0 0 46 [(8, .int (nI g)), (7, .int (b2 (gtP W ML (nI f) w g))), (5, .long w), (4, .int (nI k)), (3, .int (nI L.length)), (0, .ref 0), (1, .int (nI f)), (2, .int (nI i))] [] := by
      intro hkl w hw
      refine bwd (fun g hg ihg => ?_)
      have p12 : g < Gn → pickV (W 12) 16 (nI g) = W 12 g := fun _ => pickV_nI _ (by omega) (by decide)
      have p13 : g < Gn → pickV (W 13) 16 (nI g) = W 13 g := fun _ => pickV_nI _ (by omega) (by decide)
      have hG2 : ¬ nI Gn ≤ nI g → g < Gn := fun z => ltL (by omega) z
      refine r_iload 0 rfl dX10_holdsAll_46 ?_
      refine r_aload_n 5 rfl dX10_holdsAll_48 ?_
      refine r_getr dX10_holdsAll_49 fl_X10_10 rfl (hM _ _ _ rfl) ?_
      refine r_geti dX10_holdsAll_52 fl_X10_163 rfl ?_
      refine r_icmpge (tgt := 123) dX10_holdsAll_55 (by decide) (fun zh55 => ?_) (fun zh55 => ?_)
      · have hdn : gtP W ML (nI f) w g = gtP W ML (nI f) w Gn := by
          first
            | (have z1 : gtP W ML (nI f) w g = true := b2n.mp zh60
               have z2 := gtP_t z1 (Gn - g)
               rw [show g + (Gn - g) = Gn by omega] at z2
               rw [z1, z2])
            | (rw [wG] at zh55
               have z1 : g = Gn := by have := geL (k := Gn) (by omega) (by omega) zh55; omega
               rw [z1])
        refine r_iload 1 rfl dX10_holdsAll_123 ?_
        refine r_ifne (tgt := 130) dX10_holdsAll_125 (by decide) (fun zh125 => ?_) (fun zh125 => ?_)
        · refine r_iinc (v := (nI (k + 1))) (ls2 := [(4, .int (nI (k + 1))), (8, .int (nI g)), (7, .int (b2 (gtP W ML (nI f) w g))), (5, .long w), (3, .int (nI L.length)), (0, .ref 0), (1, .int (nI f)), (2, .int (nI i))]) 3 dX10_holdsAll_130 rfl (x_inc k) (by decide) rfl ?_
          refine r_goto (tgt := 13) dX10_holdsAll_133 (by decide) ?_
          refine r_sub [0, 4, 5, 6, 7] rfl (ih hkl (fun j hj => ?_))
          rcases Nat.lt_or_ge j k with z | z
          · exact hall j z
          · obtain rfl : j = k := by omega
            rw [← hw, ← hdn]
            exact b2n.mp zh125
        · refine r_iconst (v := 0) rfl dX10_holdsAll_128 ?_
          exact r_zret hG dX10_holdsAll_129 (rfl) (by
              have zf : gtP W ML (nI f) w Gn = false := by rw [← hdn]; exact b2z.mp zh125
              have zq : hdA MI ML (nI f) Gn L = false := by
                unfold hdA
                rw [List.all_eq_false]
                refine ⟨L.getD k 0, by rw [gDe _ hkl]; exact List.getElem_mem hkl, ?_⟩
                rw [← hgt, ← hw, zf]
                decide
              rw [zq]; exact ⟨rfl, rfl, rfl, rfl⟩)
      · rw [wG] at zh55
        have hlt : g < Gn := hG2 zh55
        refine r_iload 1 rfl dX10_holdsAll_58 ?_
        refine r_ifne (tgt := 123) dX10_holdsAll_60 (by decide) (fun zh60 => ?_) (fun zh60 => ?_)
        · have hdn : gtP W ML (nI f) w g = gtP W ML (nI f) w Gn := by
            first
              | (have z1 : gtP W ML (nI f) w g = true := b2n.mp zh60
                 have z2 := gtP_t z1 (Gn - g)
                 rw [show g + (Gn - g) = Gn by omega] at z2
                 rw [z1, z2])
              | (rw [wG] at zh55
                 have z1 : g = Gn := by have := geL (k := Gn) (by omega) (by omega) zh55; omega
                 rw [z1])
          refine r_iload 1 rfl dX10_holdsAll_123 ?_
          refine r_ifne (tgt := 130) dX10_holdsAll_125 (by decide) (fun zh125 => ?_) (fun zh125 => ?_)
          · refine r_iinc (v := (nI (k + 1))) (ls2 := [(4, .int (nI (k + 1))), (8, .int (nI g)), (7, .int (b2 (gtP W ML (nI f) w g))), (5, .long w), (3, .int (nI L.length)), (0, .ref 0), (1, .int (nI f)), (2, .int (nI i))]) 3 dX10_holdsAll_130 rfl (x_inc k) (by decide) rfl ?_
            refine r_goto (tgt := 13) dX10_holdsAll_133 (by decide) ?_
            refine r_sub [0, 4, 5, 6, 7] rfl (ih hkl (fun j hj => ?_))
            rcases Nat.lt_or_ge j k with z | z
            · exact hall j z
            · obtain rfl : j = k := by omega
              rw [← hw, ← hdn]
              exact b2n.mp zh125
          · refine r_iconst (v := 0) rfl dX10_holdsAll_128 ?_
            exact r_zret hG dX10_holdsAll_129 (rfl) (by
                have zf : gtP W ML (nI f) w Gn = false := by rw [← hdn]; exact b2z.mp zh125
                have zq : hdA MI ML (nI f) Gn L = false := by
                  unfold hdA
                  rw [List.all_eq_false]
                  refine ⟨L.getD k 0, by rw [gDe _ hkl]; exact List.getElem_mem hkl, ?_⟩
                  rw [← hgt, ← hw, zf]
                  decide
                rw [zq]; exact ⟨rfl, rfl, rfl, rfl⟩)
        · refine r_aload_n 5 rfl dX10_holdsAll_63 ?_
          refine r_getr dX10_holdsAll_64 fl_X10_10 rfl (hM _ _ _ rfl) ?_
          refine r_getr dX10_holdsAll_67 fl_X10_166 rfl (hM _ _ _ rfl) ?_
          refine r_iload 0 rfl dX10_holdsAll_70 ?_
          refine r_Sf [.ref _, .int _] dX10_holdsAll_72 lk_X10_140 mb_X10_pick sc_X10_pick rfl (c_X10_pick (N := 16) rfl (by decide)) rfl (Nat.le_of_ble_eq_true rfl) (rfl) ?_
          refine r_iload_n 6 rfl dX10_holdsAll_75 ?_
          refine r_icmpne (tgt := 114) dX10_holdsAll_76 (by decide) (fun zh76 => ?_) (fun zh76 => ?_)
          · refine r_iconst (v := 0) rfl dX10_holdsAll_114 ?_
            refine r_istore (ls2 := [(7, .int 0), (8, .int (nI g)), (5, .long w), (4, .int (nI k)), (3, .int (nI L.length)), (0, .ref 0), (1, .int (nI f)), (2, .int (nI i))]) dX10_holdsAll_115 (by decide) rfl ?_
            refine r_iinc (v := (nI (g + 1))) (ls2 := [(8, .int (nI (g + 1))), (7, .int 0), (5, .long w), (4, .int (nI k)), (3, .int (nI L.length)), (0, .ref 0), (1, .int (nI f)), (2, .int (nI i))]) 1 dX10_holdsAll_117 rfl (x_inc g) (by decide) rfl ?_
            refine r_goto (tgt := 46) dX10_holdsAll_120 (by decide) ?_
            have z0 : gtP W ML (nI f) w g = false := b2z.mp zh60
            have zq := ihg hlt
            rw [gtP_s, z0, Bool.false_or] at zq
            rw [p12 hlt] at zh76
            first
              | (rw [p13 hlt, lcmp_eq] at zh107
                 rw [decide_eq_true zh76, decide_eq_true zh107] at zq
                 exact r_sub [0, 1, 2, 3, 4, 5, 6, 7] rfl zq)
              | (rw [p13 hlt, lcmp_eq] at zh107
                 rw [decide_eq_true zh76, decide_eq_false zh107] at zq
                 exact r_sub [0, 1, 2, 3, 4, 5, 6, 7] rfl zq)
              | (rw [decide_eq_false zh76] at zq
                 exact r_sub [0, 1, 2, 3, 4, 5, 6, 7] rfl zq)
          · refine r_lload 2 rfl dX10_holdsAll_79 ?_
            refine r_aload_n 5 rfl dX10_holdsAll_81 ?_
            refine r_getr dX10_holdsAll_82 fl_X10_42 rfl (hM _ _ _ rfl) ?_
            refine r_aload_n 5 rfl dX10_holdsAll_85 ?_
            refine r_getr dX10_holdsAll_86 fl_X10_10 rfl (hM _ _ _ rfl) ?_
            refine r_getr dX10_holdsAll_89 fl_X10_169 rfl (hM _ _ _ rfl) ?_
            refine r_iload 0 rfl dX10_holdsAll_92 ?_
            refine r_Sf [.ref _, .int _] dX10_holdsAll_94 lk_X10_140 mb_X10_pick sc_X10_pick rfl (c_X10_pick (N := 16) rfl (by decide)) rfl (Nat.le_of_ble_eq_true rfl) (rfl) ?_
            refine r_Vf [.int _] dX10_holdsAll_97 lk_X10_210 mb_X2_pointsOf in_X2_pointsOf se_X2_pointsOf rfl (c_X2_pointsOf hM) rfl rfl rfl (Nat.le_of_ble_eq_true rfl) (rfl) ?_
            refine r_ldc2 kl_X10_365 dX10_holdsAll_100 ?_
            refine r_lxor dX10_holdsAll_103 ?_
            refine r_land dX10_holdsAll_104 ?_
            refine r_lconst (v := 0) rfl dX10_holdsAll_105 ?_
            refine r_lcmp dX10_holdsAll_106 ?_
            refine r_ifne (tgt := 114) dX10_holdsAll_107 (by decide) (fun zh107 => ?_) (fun zh107 => ?_)
            · refine r_iconst (v := 0) rfl dX10_holdsAll_114 ?_
              refine r_istore (ls2 := [(7, .int 0), (8, .int (nI g)), (5, .long w), (4, .int (nI k)), (3, .int (nI L.length)), (0, .ref 0), (1, .int (nI f)), (2, .int (nI i))]) dX10_holdsAll_115 (by decide) rfl ?_
              refine r_iinc (v := (nI (g + 1))) (ls2 := [(8, .int (nI (g + 1))), (7, .int 0), (5, .long w), (4, .int (nI k)), (3, .int (nI L.length)), (0, .ref 0), (1, .int (nI f)), (2, .int (nI i))]) 1 dX10_holdsAll_117 rfl (x_inc g) (by decide) rfl ?_
              refine r_goto (tgt := 46) dX10_holdsAll_120 (by decide) ?_
              have z0 : gtP W ML (nI f) w g = false := b2z.mp zh60
              have zq := ihg hlt
              rw [gtP_s, z0, Bool.false_or] at zq
              rw [p12 hlt] at zh76
              first
                | (rw [p13 hlt, lcmp_eq] at zh107
                   rw [decide_eq_true zh76, decide_eq_true zh107] at zq
                   exact r_sub [0, 1, 2, 3, 4, 5, 6, 7] rfl zq)
                | (rw [p13 hlt, lcmp_eq] at zh107
                   rw [decide_eq_true zh76, decide_eq_false zh107] at zq
                   exact r_sub [0, 1, 2, 3, 4, 5, 6, 7] rfl zq)
                | (rw [decide_eq_false zh76] at zq
                   exact r_sub [0, 1, 2, 3, 4, 5, 6, 7] rfl zq)
            · refine r_iconst (v := 1) rfl dX10_holdsAll_110 ?_
              refine r_goto (tgt := 115) dX10_holdsAll_111 (by decide) ?_
              refine r_istore (ls2 := [(7, .int 1), (8, .int (nI g)), (5, .long w), (4, .int (nI k)), (3, .int (nI L.length)), (0, .ref 0), (1, .int (nI f)), (2, .int (nI i))]) dX10_holdsAll_115 (by decide) rfl ?_
              refine r_iinc (v := (nI (g + 1))) (ls2 := [(8, .int (nI (g + 1))), (7, .int 1), (5, .long w), (4, .int (nI k)), (3, .int (nI L.length)), (0, .ref 0), (1, .int (nI f)), (2, .int (nI i))]) 1 dX10_holdsAll_117 rfl (x_inc g) (by decide) rfl ?_
              refine r_goto (tgt := 46) dX10_holdsAll_120 (by decide) ?_
              have z0 : gtP W ML (nI f) w g = false := b2z.mp zh60
              have zq := ihg hlt
              rw [gtP_s, z0, Bool.false_or] at zq
              rw [p12 hlt] at zh76
              first
                | (rw [p13 hlt, lcmp_eq] at zh107
                   rw [decide_eq_true zh76, decide_eq_true zh107] at zq
                   exact r_sub [0, 1, 2, 3, 4, 5, 6, 7] rfl zq)
                | (rw [p13 hlt, lcmp_eq] at zh107
                   rw [decide_eq_true zh76, decide_eq_false zh107] at zq
                   exact r_sub [0, 1, 2, 3, 4, 5, 6, 7] rfl zq)
                | (rw [decide_eq_false zh76] at zq
                   exact r_sub [0, 1, 2, 3, 4, 5, 6, 7] rfl zq)
    refine r_iload 0 rfl dX10_holdsAll_13 ?_
    refine r_iload_n 1 rfl dX10_holdsAll_15 ?_
    refine r_icmpge (tgt := 136) dX10_holdsAll_16 (by decide) (fun zh16 => ?_) (fun zh16 => ?_)
    · have hke : k = L.length := by have := geL (k := L.length) (by omega) (by omega) zh16; omega
      refine r_iconst (v := 1) rfl dX10_holdsAll_136 ?_
      exact r_zret hG dX10_holdsAll_137 (rfl) (by
          have zq : hdA MI ML (nI f) Gn L = true := by
            unfold hdA
            rw [List.all_eq_true]
            intro c hc
            obtain ⟨j, hj, e⟩ := List.getElem_of_mem hc
            rw [← e, ← hgt, ← gDe 0 hj]
            exact hall j (by omega)
          rw [zq]; exact ⟨rfl, rfl, rfl, rfl⟩)
    · have hkl : k < L.length := ltL (by omega) zh16
      refine r_aload_n 2 rfl dX10_holdsAll_19 ?_
      refine r_getr dX10_holdsAll_20 fl_X10_42 rfl (hM _ _ _ rfl) ?_
      refine r_aload_n 2 rfl dX10_holdsAll_23 ?_
      refine r_getr dX10_holdsAll_24 fl_X10_35 rfl (hM _ _ _ rfl) ?_
      refine r_getr dX10_holdsAll_27 fl_X10_362 rfl (hM _ _ _ rfl) ?_
      refine r_iload 0 rfl dX10_holdsAll_30 ?_
      refine r_Sf [.ref _, .int _] dX10_holdsAll_32 lk_X10_140 mb_X10_pick sc_X10_pick rfl (c_X10_pick (N := 4) rfl (by decide)) rfl (Nat.le_of_ble_eq_true rfl) (rfl) ?_
      refine r_Vf [.int _] dX10_holdsAll_35 lk_X10_210 mb_X2_pointsOf in_X2_pointsOf se_X2_pointsOf rfl (c_X2_pointsOf hM) rfl rfl rfl (Nat.le_of_ble_eq_true rfl) (rfl) ?_
      rw [w56, pickV_nI _ (show k < 4 by omega) (by decide), layL_lt hkl]
      refine r_lstore (ls2 := [(5, .long (ptsV ML (L.getD k 0))), (4, .int (nI k)), (3, .int (nI L.length)), (0, .ref 0), (1, .int (nI f)), (2, .int (nI i))]) dX10_holdsAll_38 (by decide) rfl ?_
      refine r_iconst (v := 0) rfl dX10_holdsAll_40 ?_
      refine r_istore (ls2 := [(7, .int 0), (5, .long (ptsV ML (L.getD k 0))), (4, .int (nI k)), (3, .int (nI L.length)), (0, .ref 0), (1, .int (nI f)), (2, .int (nI i))]) dX10_holdsAll_41 (by decide) rfl ?_
      refine r_iconst (v := 0) rfl dX10_holdsAll_43 ?_
      refine r_istore (ls2 := [(8, .int 0), (7, .int 0), (5, .long (ptsV ML (L.getD k 0))), (4, .int (nI k)), (3, .int (nI L.length)), (0, .ref 0), (1, .int (nI f)), (2, .int (nI i))]) dX10_holdsAll_44 (by decide) rfl ?_
      exact r_sub [0, 1, 2, 3, 4, 5, 6, 7] rfl (inner hkl _ rfl 0 (Nat.zero_le _))
  refine r_aload_n 0 rfl dX10_holdsAll_0 ?_
  refine r_getr dX10_holdsAll_1 fl_X10_35 rfl (hM _ _ _ rfl) ?_
  refine r_iload_n 1 rfl dX10_holdsAll_4 ?_
  refine r_iload_n 2 rfl dX10_holdsAll_5 ?_
  refine r_Vf [.int _, .int _] dX10_holdsAll_6 lk_X10_359 mb_X8_findRequired in_X8_findRequired se_X8_findRequired rfl (c_X8_findRequired hM) rfl rfl rfl (Nat.le_of_ble_eq_true rfl) (rfl) ?_
  rw [← hL]
  refine r_mem (MI2 := W) (by rw [hW, hL]; rfl) rfl rfl ?_
  refine r_istore_n (ls2 := [(3, .int (nI L.length)), (0, .ref 0), (1, .int (nI f)), (2, .int (nI i))]) dX10_holdsAll_9 (by decide) rfl ?_
  refine r_iconst (v := 0) rfl dX10_holdsAll_10 ?_
  refine r_istore (ls2 := [(4, .int 0), (3, .int (nI L.length)), (0, .ref 0), (1, .int (nI f)), (2, .int (nI i))]) dX10_holdsAll_11 (by decide) rfl ?_
  exact r_sub [0, 1, 2, 3, 4] rfl (outer 0 (Nat.zero_le _) (fun j hj => absurd hj (Nat.not_lt_zero j)))
set_option maxRecDepth 100000 in
theorem c_X10_harmBy (hM : x_Lay MR) {Gn f i : Nat} (hGn16 : Gn ≤ 16) (hGr : MI 1 8 = nI Gn) (hf : f < 5) (hi : i < 8) : Cf X yX10_harmBy cX10_harmBy 14 (some .int) 5 [.ref 0, .int (nI f), .int (nI i)] n SH MI ML MR (some (.int (hmV MI ML Gn f i))) (fdM6 MI f i) ML MR := by
  obtain ⟨bu, hbu⟩ : ∃ bu, bu = ptsV ML (MI 51 i) := ⟨_, rfl⟩
  obtain ⟨bo, hbo⟩ : ∃ bo, bo = bu ||| ptsV ML (MI 52 i) := ⟨_, rfl⟩
  obtain ⟨fm, hfm⟩ : ∃ fm, fm = ptL (MI 53 i) := ⟨_, rfl⟩
  obtain ⟨z, hz⟩ : ∃ z, z = ML 49 f := ⟨_, rfl⟩
  obtain ⟨fl, hfl⟩ : ∃ fl, fl = fallV (MI 54) (MI 55) (nI f) (nI i) := ⟨_, rfl⟩
  have hh : hmV MI ML Gn f i = if hdA MI ML (nI f) Gn (frMI MI (nI i) (nI f)) = true then hmS MI ML (nI f) bu bo fm z fl Gn else hmS MI ML (nI f) bu bo fm z fl Gn ||| 2 := by
    unfold hmV
    simp only
    rw [hbo, hbu, hfm, hz, hfl]
  have p52 : pickV (MI 52) 8 (nI i) = MI 52 i := pickV_nI _ hi (by decide)
  have p53 : pickV (MI 53) 8 (nI i) = MI 53 i := pickV_nI _ hi (by decide)
  have hin : inR (nI f) 5 = true := inR_nI (N := 5) hf (by decide)
  have cf : (nI f).toNatClampNeg = f := nI_clamp (by omega)
  rw [hh]
  refine Ct_of (by decide) (Nat.le_of_ble_eq_true rfl) (fun G hG => ?_)
  have loop : ∀ g, g ≤ Gn → RW X G RX10 cX10_harmBy 14 (x_rm 5 0 0) n SH MI ML MR 0 0 55 [(11, .int (nI g)), (10, .int (hmS MI ML (nI f) bu bo fm z fl g)), (9, .int (if fl = true then 1 else 0)), (7, .long fm), (5, .long bo), (3, .long bu), (0, .ref 0), (1, .int (nI f)), (2, .int (nI i))] [] := by
    refine bwd (fun g hg ih => ?_)
    have p12 : g < Gn → pickV (MI 12) 16 (nI g) = MI 12 g := fun _ => pickV_nI _ (by omega) (by decide)
    have p13 : g < Gn → pickV (MI 13) 16 (nI g) = MI 13 g := fun _ => pickV_nI _ (by omega) (by decide)
    obtain ⟨ga, hga⟩ : ∃ ga, ga = ptsV ML (MI 13 g) := ⟨_, rfl⟩
    obtain ⟨h0, hh0⟩ : ∃ h0, h0 = hmS MI ML (nI f) bu bo fm z fl g := ⟨_, rfl⟩
    have hst : hmS MI ML (nI f) bu bo fm z fl (g + 1) = if MI 12 g = nI f then (if fl = true ∧ ¬ ga &&& bu = 0 ∧ ga &&& fm = 0 then (if ga &&& bo &&& z = 0 then h0 else h0 ||| 1) ||| 4 else (if ga &&& bo &&& z = 0 then h0 else h0 ||| 1)) else h0 := by
      rw [hmS]
      simp only
      rw [← hga, ← hh0]
    rw [← hh0]
    have j162 : g < Gn → ∀ h, h = hmS MI ML (nI f) bu bo fm z fl (g + 1) → RW X G RX10 cX10_harmBy 14 (x_rm 5 0 0) n SH MI ML MR 0 0 162 [(11, .int (nI g)), (10, .int h), (9, .int (if fl = true then 1 else 0)), (7, .long fm), (5, .long bo), (3, .long bu), (0, .ref 0), (1, .int (nI f)), (2, .int (nI i))] [] := by
      intro hlt h he
      subst he
      refine r_iinc (v := (nI (g + 1))) (ls2 := [(11, .int (nI (g + 1))), (10, .int (hmS MI ML (nI f) bu bo fm z fl (g + 1))), (9, .int (if fl = true then 1 else 0)), (7, .long fm), (5, .long bo), (3, .long bu), (0, .ref 0), (1, .int (nI f)), (2, .int (nI i))]) 0 dX10_harmBy_162 rfl (x_inc g) (by decide) rfl ?_
      refine r_goto (tgt := 55) dX10_harmBy_165 (by decide) ?_
      exact ih hlt
    have j132 : g < Gn → MI 12 g = nI f → ∀ h, h = (if ga &&& bo &&& z = 0 then h0 else h0 ||| 1) → RW X G RX10 cX10_harmBy 14 (x_rm 5 0 0) n SH MI ML MR 0 0 132 [(12, .long ga), (11, .int (nI g)), (10, .int h), (9, .int (if fl = true then 1 else 0)), (7, .long fm), (5, .long bo), (3, .long bu), (0, .ref 0), (1, .int (nI f)), (2, .int (nI i))] [] := by
      intro hlt h12 h he
      rw [if_pos h12, ← he] at hst
      refine r_iload 3 rfl dX10_harmBy_132 ?_
      refine r_ifeq (tgt := 162) dX10_harmBy_134 (by decide) (fun zh134 => ?_) (fun zh134 => ?_)
      · first
          | (have y1 : fl = true := by cases fl; exact absurd rfl zh134; rfl
             have y2 : ¬ ga &&& bu = 0 := fun q => zh143 (lcmp_eq.mpr q)
             have y3 : ga &&& fm = 0 := lcmp_eq.mp zh153
             rw [if_pos ⟨y1, y2, y3⟩] at hst
             subst ze160
             exact r_sub [1, 2, 3, 4, 5, 6, 7, 8, 9] rfl (j162 hlt _ hst.symm))
          | (have y3 : ¬ ga &&& fm = 0 := fun q => zh153 (lcmp_eq.mpr q)
             have y4 : ¬ (fl = true ∧ ¬ ga &&& bu = 0 ∧ ga &&& fm = 0) := fun q => y3 q.2.2
             rw [if_neg y4] at hst
             exact r_sub [1, 2, 3, 4, 5, 6, 7, 8, 9] rfl (j162 hlt _ hst.symm))
          | (have y2 : ga &&& bu = 0 := lcmp_eq.mp zh143
             have y4 : ¬ (fl = true ∧ ¬ ga &&& bu = 0 ∧ ga &&& fm = 0) := fun q => q.2.1 y2
             rw [if_neg y4] at hst
             exact r_sub [1, 2, 3, 4, 5, 6, 7, 8, 9] rfl (j162 hlt _ hst.symm))
          | (have y1 : fl = false := if01.mp zh134
             have y4 : ¬ (fl = true ∧ ¬ ga &&& bu = 0 ∧ ga &&& fm = 0) := fun q => absurd q.1 (by rw [y1]; decide)
             rw [if_neg y4] at hst
             exact r_sub [1, 2, 3, 4, 5, 6, 7, 8, 9] rfl (j162 hlt _ hst.symm))
      · refine r_lload 0 rfl dX10_harmBy_137 ?_
        refine r_lload_n 6 rfl dX10_harmBy_139 ?_
        refine r_land dX10_harmBy_140 ?_
        refine r_lconst (v := 0) rfl dX10_harmBy_141 ?_
        refine r_lcmp dX10_harmBy_142 ?_
        refine r_ifeq (tgt := 162) dX10_harmBy_143 (by decide) (fun zh143 => ?_) (fun zh143 => ?_)
        · first
            | (have y1 : fl = true := by cases fl; exact absurd rfl zh134; rfl
               have y2 : ¬ ga &&& bu = 0 := fun q => zh143 (lcmp_eq.mpr q)
               have y3 : ga &&& fm = 0 := lcmp_eq.mp zh153
               rw [if_pos ⟨y1, y2, y3⟩] at hst
               subst ze160
               exact r_sub [1, 2, 3, 4, 5, 6, 7, 8, 9] rfl (j162 hlt _ hst.symm))
            | (have y3 : ¬ ga &&& fm = 0 := fun q => zh153 (lcmp_eq.mpr q)
               have y4 : ¬ (fl = true ∧ ¬ ga &&& bu = 0 ∧ ga &&& fm = 0) := fun q => y3 q.2.2
               rw [if_neg y4] at hst
               exact r_sub [1, 2, 3, 4, 5, 6, 7, 8, 9] rfl (j162 hlt _ hst.symm))
            | (have y2 : ga &&& bu = 0 := lcmp_eq.mp zh143
               have y4 : ¬ (fl = true ∧ ¬ ga &&& bu = 0 ∧ ga &&& fm = 0) := fun q => q.2.1 y2
               rw [if_neg y4] at hst
               exact r_sub [1, 2, 3, 4, 5, 6, 7, 8, 9] rfl (j162 hlt _ hst.symm))
            | (have y1 : fl = false := if01.mp zh134
               have y4 : ¬ (fl = true ∧ ¬ ga &&& bu = 0 ∧ ga &&& fm = 0) := fun q => absurd q.1 (by rw [y1]; decide)
               rw [if_neg y4] at hst
               exact r_sub [1, 2, 3, 4, 5, 6, 7, 8, 9] rfl (j162 hlt _ hst.symm))
        · refine r_lload 0 rfl dX10_harmBy_146 ?_
          refine r_lload 4 rfl dX10_harmBy_148 ?_
          refine r_land dX10_harmBy_150 ?_
          refine r_lconst (v := 0) rfl dX10_harmBy_151 ?_
          refine r_lcmp dX10_harmBy_152 ?_
          refine r_ifne (tgt := 162) dX10_harmBy_153 (by decide) (fun zh153 => ?_) (fun zh153 => ?_)
          · first
              | (have y1 : fl = true := by cases fl; exact absurd rfl zh134; rfl
                 have y2 : ¬ ga &&& bu = 0 := fun q => zh143 (lcmp_eq.mpr q)
                 have y3 : ga &&& fm = 0 := lcmp_eq.mp zh153
                 rw [if_pos ⟨y1, y2, y3⟩] at hst
                 subst ze160
                 exact r_sub [1, 2, 3, 4, 5, 6, 7, 8, 9] rfl (j162 hlt _ hst.symm))
              | (have y3 : ¬ ga &&& fm = 0 := fun q => zh153 (lcmp_eq.mpr q)
                 have y4 : ¬ (fl = true ∧ ¬ ga &&& bu = 0 ∧ ga &&& fm = 0) := fun q => y3 q.2.2
                 rw [if_neg y4] at hst
                 exact r_sub [1, 2, 3, 4, 5, 6, 7, 8, 9] rfl (j162 hlt _ hst.symm))
              | (have y2 : ga &&& bu = 0 := lcmp_eq.mp zh143
                 have y4 : ¬ (fl = true ∧ ¬ ga &&& bu = 0 ∧ ga &&& fm = 0) := fun q => q.2.1 y2
                 rw [if_neg y4] at hst
                 exact r_sub [1, 2, 3, 4, 5, 6, 7, 8, 9] rfl (j162 hlt _ hst.symm))
              | (have y1 : fl = false := if01.mp zh134
                 have y4 : ¬ (fl = true ∧ ¬ ga &&& bu = 0 ∧ ga &&& fm = 0) := fun q => absurd q.1 (by rw [y1]; decide)
                 rw [if_neg y4] at hst
                 exact r_sub [1, 2, 3, 4, 5, 6, 7, 8, 9] rfl (j162 hlt _ hst.symm))
          · refine r_iload 2 rfl dX10_harmBy_156 ?_
            refine r_iconst (v := 4) rfl dX10_harmBy_158 ?_
            refine r_ior dX10_harmBy_159 ?_
            refine r_nmi (fun zv160 ze160 => ?_)
            refine r_istore (ls2 := [(10, .int zv160), (12, .long ga), (11, .int (nI g)), (9, .int (if fl = true then 1 else 0)), (7, .long fm), (5, .long bo), (3, .long bu), (0, .ref 0), (1, .int (nI f)), (2, .int (nI i))]) dX10_harmBy_160 (by decide) rfl ?_
            first
              | (have y1 : fl = true := by cases fl; exact absurd rfl zh134; rfl
                 have y2 : ¬ ga &&& bu = 0 := fun q => zh143 (lcmp_eq.mpr q)
                 have y3 : ga &&& fm = 0 := lcmp_eq.mp zh153
                 rw [if_pos ⟨y1, y2, y3⟩] at hst
                 subst ze160
                 exact r_sub [2, 0, 3, 4, 5, 6, 7, 8, 9] rfl (j162 hlt _ hst.symm))
              | (have y3 : ¬ ga &&& fm = 0 := fun q => zh153 (lcmp_eq.mpr q)
                 have y4 : ¬ (fl = true ∧ ¬ ga &&& bu = 0 ∧ ga &&& fm = 0) := fun q => y3 q.2.2
                 rw [if_neg y4] at hst
                 exact r_sub [2, 0, 3, 4, 5, 6, 7, 8, 9] rfl (j162 hlt _ hst.symm))
              | (have y2 : ga &&& bu = 0 := lcmp_eq.mp zh143
                 have y4 : ¬ (fl = true ∧ ¬ ga &&& bu = 0 ∧ ga &&& fm = 0) := fun q => q.2.1 y2
                 rw [if_neg y4] at hst
                 exact r_sub [2, 0, 3, 4, 5, 6, 7, 8, 9] rfl (j162 hlt _ hst.symm))
              | (have y1 : fl = false := if01.mp zh134
                 have y4 : ¬ (fl = true ∧ ¬ ga &&& bu = 0 ∧ ga &&& fm = 0) := fun q => absurd q.1 (by rw [y1]; decide)
                 rw [if_neg y4] at hst
                 exact r_sub [2, 0, 3, 4, 5, 6, 7, 8, 9] rfl (j162 hlt _ hst.symm))
    refine r_iload 0 rfl dX10_harmBy_55 ?_
    refine r_aload_n 6 rfl dX10_harmBy_57 ?_
    refine r_getr dX10_harmBy_58 fl_X10_10 rfl (hM _ _ _ rfl) ?_
    refine r_geti dX10_harmBy_61 fl_X10_163 rfl ?_
    refine r_icmpge (tgt := 168) dX10_harmBy_64 (by decide) (fun zh64 => ?_) (fun zh64 => ?_)
    · rw [hGr] at zh64
      obtain rfl : Gn = g := by have := geL (k := Gn) (by omega) (by omega) zh64; omega
      refine r_aload_n 6 rfl dX10_harmBy_168 ?_
      refine r_iload_n 7 rfl dX10_harmBy_169 ?_
      refine r_iload_n 8 rfl dX10_harmBy_170 ?_
      refine r_Vf [.int _, .int _] dX10_harmBy_171 lk_X10_356 mb_X10_holdsAll in_X10_holdsAll se_X10_holdsAll rfl (c_X10_holdsAll hM hGn16 hGr hf hi) rfl rfl rfl (Nat.le_of_ble_eq_true rfl) (rfl) ?_
      refine r_ifeq (tgt := 182) dX10_harmBy_174 (by decide) (fun zh174 => ?_) (fun zh174 => ?_)
      · refine r_iload 1 rfl dX10_harmBy_182 ?_
        refine r_iconst (v := 2) rfl dX10_harmBy_184 ?_
        refine r_ior dX10_harmBy_185 ?_
        exact r_iret hG dX10_harmBy_186 (by
            rw [← hh0]
            first
              | (have y1 : hdA MI ML (nI f) Gn (frMI MI (nI i) (nI f)) = true := b2n.mp zh174
                 rw [if_pos y1]; exact ⟨rfl, rfl, rfl, rfl⟩)
              | (have y1 : ¬ hdA MI ML (nI f) Gn (frMI MI (nI i) (nI f)) = true := by rw [b2z.mp zh174]; decide
                 rw [if_neg y1]; exact ⟨rfl, rfl, rfl, rfl⟩))
      · refine r_iload 1 rfl dX10_harmBy_177 ?_
        refine r_goto (tgt := 186) dX10_harmBy_179 (by decide) ?_
        exact r_iret hG dX10_harmBy_186 (by
            rw [← hh0]
            first
              | (have y1 : hdA MI ML (nI f) Gn (frMI MI (nI i) (nI f)) = true := b2n.mp zh174
                 rw [if_pos y1]; exact ⟨rfl, rfl, rfl, rfl⟩)
              | (have y1 : ¬ hdA MI ML (nI f) Gn (frMI MI (nI i) (nI f)) = true := by rw [b2z.mp zh174]; decide
                 rw [if_neg y1]; exact ⟨rfl, rfl, rfl, rfl⟩))
    · rw [hGr] at zh64
      have hlt : g < Gn := ltL (by omega) zh64
      refine r_aload_n 6 rfl dX10_harmBy_67 ?_
      refine r_getr dX10_harmBy_68 fl_X10_10 rfl (hM _ _ _ rfl) ?_
      refine r_getr dX10_harmBy_71 fl_X10_166 rfl (hM _ _ _ rfl) ?_
      refine r_iload 0 rfl dX10_harmBy_74 ?_
      refine r_Sf [.ref _, .int _] dX10_harmBy_76 lk_X10_140 mb_X10_pick sc_X10_pick rfl (c_X10_pick (N := 16) rfl (by decide)) rfl (Nat.le_of_ble_eq_true rfl) (rfl) ?_
      refine r_iload_n 7 rfl dX10_harmBy_79 ?_
      refine r_icmpne (tgt := 162) dX10_harmBy_80 (by decide) (fun zh80 => ?_) (fun zh80 => ?_)
      · rw [p12 hlt] at zh80
        exact j162 hlt _ (by rw [hst, if_neg zh80])
      · rw [p12 hlt] at zh80
        refine r_aload_n 6 rfl dX10_harmBy_83 ?_
        refine r_getr dX10_harmBy_84 fl_X10_42 rfl (hM _ _ _ rfl) ?_
        refine r_aload_n 6 rfl dX10_harmBy_87 ?_
        refine r_getr dX10_harmBy_88 fl_X10_10 rfl (hM _ _ _ rfl) ?_
        refine r_getr dX10_harmBy_91 fl_X10_169 rfl (hM _ _ _ rfl) ?_
        refine r_iload 0 rfl dX10_harmBy_94 ?_
        refine r_Sf [.ref _, .int _] dX10_harmBy_96 lk_X10_140 mb_X10_pick sc_X10_pick rfl (c_X10_pick (N := 16) rfl (by decide)) rfl (Nat.le_of_ble_eq_true rfl) (rfl) ?_
        refine r_Vf [.int _] dX10_harmBy_99 lk_X10_210 mb_X2_pointsOf in_X2_pointsOf se_X2_pointsOf rfl (c_X2_pointsOf hM) rfl rfl rfl (Nat.le_of_ble_eq_true rfl) (rfl) ?_
        rw [p13 hlt, ← hga]
        refine r_lstore (ls2 := [(12, .long ga), (11, .int (nI g)), (10, .int h0), (9, .int (if fl = true then 1 else 0)), (7, .long fm), (5, .long bo), (3, .long bu), (0, .ref 0), (1, .int (nI f)), (2, .int (nI i))]) dX10_harmBy_102 (by decide) rfl ?_
        refine r_lload 0 rfl dX10_harmBy_104 ?_
        refine r_lload 5 rfl dX10_harmBy_106 ?_
        refine r_land dX10_harmBy_108 ?_
        refine r_aload_n 7 rfl dX10_harmBy_109 ?_
        refine r_getr dX10_harmBy_110 fl_X10_35 rfl (hM _ _ _ rfl) ?_
        refine r_getr dX10_harmBy_113 fl_X10_175 rfl (hM _ _ _ rfl) ?_
        refine r_iload_n 8 rfl dX10_harmBy_116 ?_
        refine r_Vf [.int _] dX10_harmBy_117 lk_X10_179 mb_X3_zerosOf in_X3_zerosOf se_X3_zerosOf rfl (c_X3_zerosOf (De48 hM)) rfl rfl rfl (Nat.le_of_ble_eq_true rfl) (rfl) ?_
        refine r_land dX10_harmBy_120 ?_
        refine r_lconst (v := 0) rfl dX10_harmBy_121 ?_
        refine r_lcmp dX10_harmBy_122 ?_
        refine r_ifeq (tgt := 132) dX10_harmBy_123 (by decide) (fun zh123 => ?_) (fun zh123 => ?_)
        · rw [if_pos hin, cf, ← hz] at zh123
          first
            | (have y1 : ga &&& bo &&& z = 0 := lcmp_eq.mp zh123
               exact r_sub [0, 1, 2, 3, 4, 5, 6, 7, 8, 9] rfl (j132 hlt zh80 _ (by rw [if_pos y1])))
            | (have y1 : ¬ ga &&& bo &&& z = 0 := fun q => zh123 (lcmp_eq.mpr q)
               subst ze130
               exact r_sub [0, 1, 2, 3, 4, 5, 6, 7, 8, 9] rfl (j132 hlt zh80 _ (by rw [if_neg y1])))
        · refine r_iload 2 rfl dX10_harmBy_126 ?_
          refine r_iconst (v := 1) rfl dX10_harmBy_128 ?_
          refine r_ior dX10_harmBy_129 ?_
          refine r_nmi (fun zv130 ze130 => ?_)
          refine r_istore (ls2 := [(10, .int zv130), (12, .long ga), (11, .int (nI g)), (9, .int (if fl = true then 1 else 0)), (7, .long fm), (5, .long bo), (3, .long bu), (0, .ref 0), (1, .int (nI f)), (2, .int (nI i))]) dX10_harmBy_130 (by decide) rfl ?_
          rw [if_pos hin, cf, ← hz] at zh123
          first
            | (have y1 : ga &&& bo &&& z = 0 := lcmp_eq.mp zh123
               exact r_sub [1, 2, 0, 3, 4, 5, 6, 7, 8, 9] rfl (j132 hlt zh80 _ (by rw [if_pos y1])))
            | (have y1 : ¬ ga &&& bo &&& z = 0 := fun q => zh123 (lcmp_eq.mpr q)
               subst ze130
               exact r_sub [1, 2, 0, 3, 4, 5, 6, 7, 8, 9] rfl (j132 hlt zh80 _ (by rw [if_neg y1])))
  refine r_aload_n 0 rfl dX10_harmBy_0 ?_
  refine r_iload_n 2 rfl dX10_harmBy_1 ?_
  refine r_Vf [.int _] dX10_harmBy_2 lk_X10_257 mb_X10_burstOf in_X10_burstOf se_X10_burstOf rfl (c_X10_burstOf hM hi) rfl rfl rfl (Nat.le_of_ble_eq_true rfl) (rfl) ?_
  rw [← hbu]
  refine r_lstore_n (ls2 := [(3, .long bu), (0, .ref 0), (1, .int (nI f)), (2, .int (nI i))]) dX10_harmBy_5 (by decide) rfl ?_
  refine r_lload_n 0 rfl dX10_harmBy_6 ?_
  refine r_aload_n 1 rfl dX10_harmBy_7 ?_
  refine r_getr dX10_harmBy_8 fl_X10_42 rfl (hM _ _ _ rfl) ?_
  refine r_aload_n 1 rfl dX10_harmBy_11 ?_
  refine r_getr dX10_harmBy_12 fl_X10_35 rfl (hM _ _ _ rfl) ?_
  refine r_getr dX10_harmBy_15 fl_X10_346 rfl (hM _ _ _ rfl) ?_
  refine r_iload_n 3 rfl dX10_harmBy_18 ?_
  refine r_Sf [.ref _, .int _] dX10_harmBy_19 lk_X10_140 mb_X10_pick sc_X10_pick rfl (c_X10_pick (N := 8) rfl (by decide)) rfl (Nat.le_of_ble_eq_true rfl) (rfl) ?_
  rw [p52]
  refine r_Vf [.int _] dX10_harmBy_22 lk_X10_210 mb_X2_pointsOf in_X2_pointsOf se_X2_pointsOf rfl (c_X2_pointsOf hM) rfl rfl rfl (Nat.le_of_ble_eq_true rfl) (rfl) ?_
  refine r_lor dX10_harmBy_25 ?_
  rw [← hbo]
  refine r_lstore (ls2 := [(5, .long bo), (3, .long bu), (0, .ref 0), (1, .int (nI f)), (2, .int (nI i))]) dX10_harmBy_26 (by decide) rfl ?_
  refine r_aload_n 2 rfl dX10_harmBy_28 ?_
  refine r_getr dX10_harmBy_29 fl_X10_35 rfl (hM _ _ _ rfl) ?_
  refine r_iload_n 4 rfl dX10_harmBy_32 ?_
  refine r_Vf [.int _] dX10_harmBy_33 lk_X10_349 mb_X8_fromPoint in_X8_fromPoint se_X8_fromPoint rfl (c_X8_fromPoint hM) rfl rfl rfl (Nat.le_of_ble_eq_true rfl) (rfl) ?_
  rw [p53, ← hfm]
  refine r_lstore (ls2 := [(7, .long fm), (5, .long bo), (3, .long bu), (0, .ref 0), (1, .int (nI f)), (2, .int (nI i))]) dX10_harmBy_36 (by decide) rfl ?_
  refine r_aload_n 3 rfl dX10_harmBy_38 ?_
  refine r_getr dX10_harmBy_39 fl_X10_35 rfl (hM _ _ _ rfl) ?_
  refine r_iload_n 4 rfl dX10_harmBy_42 ?_
  refine r_iload_n 5 rfl dX10_harmBy_43 ?_
  refine r_Vf [.int _, .int _] dX10_harmBy_44 lk_X10_352 mb_X8_fallsBy in_X8_fallsBy se_X8_fallsBy rfl (c_X8_fallsBy hM) rfl rfl rfl (Nat.le_of_ble_eq_true rfl) (rfl) ?_
  rw [← hfl]
  refine r_istore (ls2 := [(9, .int (if fl = true then 1 else 0)), (7, .long fm), (5, .long bo), (3, .long bu), (0, .ref 0), (1, .int (nI f)), (2, .int (nI i))]) dX10_harmBy_47 (by decide) rfl ?_
  refine r_iconst (v := 0) rfl dX10_harmBy_49 ?_
  refine r_istore (ls2 := [(10, .int 0), (9, .int (if fl = true then 1 else 0)), (7, .long fm), (5, .long bo), (3, .long bu), (0, .ref 0), (1, .int (nI f)), (2, .int (nI i))]) dX10_harmBy_50 (by decide) rfl ?_
  refine r_iconst (v := 0) rfl dX10_harmBy_52 ?_
  refine r_istore (ls2 := [(11, .int 0), (10, .int 0), (9, .int (if fl = true then 1 else 0)), (7, .long fm), (5, .long bo), (3, .long bu), (0, .ref 0), (1, .int (nI f)), (2, .int (nI i))]) dX10_harmBy_53 (by decide) rfl ?_
  exact r_sub [0, 1, 2, 3, 4, 5, 6, 7, 8] rfl (loop 0 (Nat.zero_le _))
/-! harm, glitch: what they leave -/
def hrAns (MI : Mi) (ML : Nat → Nat → Int64) (Gn : Nat) (x y : Int32) : Int32 × Int32 := if inR x 5 = true ∧ inR y (MI 1 6) = true then (if MI 43 6 = 0 then (hmV MI ML Gn x.toNatClampNeg y.toNatClampNeg, 0) else (-1, 5)) else (-1, 1)
set_option maxRecDepth 100000 in
theorem c_X10_harm (hM : x_Lay MR) {A Gn : Nat} (hA : A ≤ 8) (hAr : MI 1 6 = nI A) (hGn16 : Gn ≤ 16) (hGr : MI 1 8 = nI Gn) {x y : Int32} : Ct X yX10_harm cX10_harm 3 (some .int) 6 0 0 [.ref 0, .int x, .int y] n SH MI ML MR n SH (fun r0 W B C => r0 = some (.int (hrAns MI ML Gn x y).1) ∧ (∃ g, W = u2 (sr MI 56 g) 0 8 (hrAns MI ML Gn x y).2) ∧ B = ML ∧ C = MR) := by
  by_cases hc : inR x 5 = true ∧ inR y (MI 1 6) = true
  · obtain ⟨f, hf, rfl⟩ := inR_ex (N := 5) (by decide) (inR_t.mp hc.1).1 (inR_t.mp hc.1).2
    obtain ⟨i, hi, rfl⟩ : ∃ i, i < A ∧ y = nI i := by
      have h2 := hc.2
      rw [hAr] at h2
      exact inR_ex (by omega) (inR_t.mp h2).1 (inR_t.mp h2).2
    by_cases he : MI 43 6 = 0
    · have ha : hrAns MI ML Gn (nI f) (nI i) = (hmV MI ML Gn f i, 0) := by unfold hrAns; rw [if_pos hc, if_pos he, nI_clamp (by omega), nI_clamp (by omega)]
      rw [ha]
      refine Ct_of (by decide) (Nat.le_of_ble_eq_true rfl) (fun G hG => ?_)
      refine r_iload_n 1 rfl dX10_harm_0 ?_
      refine r_Sf [.int _] dX10_harm_1 lk_X10_247 mb_X10_isFunction sc_X10_isFunction rfl (c_X10_isFunction) rfl (Nat.le_of_ble_eq_true rfl) (rfl) ?_
      refine r_ifeq (tgt := 15) dX10_harm_4 (by decide) (fun zh4 => ?_) (fun zh4 => ?_)
      · exact absurd zh4 (by rw [if_pos hc.1]; decide)
      refine r_aload_n 0 rfl dX10_harm_7 ?_
      refine r_iload_n 2 rfl dX10_harm_8 ?_
      refine r_Vf [.int _] dX10_harm_9 lk_X10_153 mb_X10_hasArc in_X10_hasArc se_X10_hasArc rfl (c_X10_hasArc hM) rfl rfl rfl (Nat.le_of_ble_eq_true rfl) (rfl) ?_
      refine r_ifne (tgt := 21) dX10_harm_12 (by decide) (fun zh12 => ?_) (fun zh12 => ?_)
      rotate_left
      · exact absurd zh12 (by rw [if_pos hc.2]; decide)
      refine r_aload_n 0 rfl dX10_harm_21 ?_
      refine r_getr dX10_harm_22 fl_X10_35 rfl (hM _ _ _ rfl) ?_
      refine r_geti dX10_harm_25 fl_X10_127 rfl ?_
      refine r_ifne (tgt := 44) dX10_harm_28 (by decide) (fun zh28 => ?_) (fun zh28 => ?_)
      · exact absurd zh28 (fun q => q he)
      refine r_aload_n 0 rfl dX10_harm_31 ?_
      refine r_aload_n 0 rfl dX10_harm_32 ?_
      refine r_iload_n 1 rfl dX10_harm_33 ?_
      refine r_iload_n 2 rfl dX10_harm_34 ?_
      refine r_Vf [.int _, .int _] dX10_harm_35 lk_X10_250 mb_X10_harmBy in_X10_harmBy se_X10_harmBy rfl (c_X10_harmBy hM hGn16 hGr hf (show i < 8 by omega)) rfl rfl rfl (Nat.le_of_ble_eq_true rfl) (rfl) ?_
      refine r_Vf [.int _] dX10_harm_38 lk_X10_115 mb_X10_told in_X10_told se_X10_told rfl (c_X10_told) rfl rfl rfl (Nat.le_of_ble_eq_true rfl) (rfl) ?_
      refine r_goto (tgt := 49) dX10_harm_41 (by decide) ?_
      exact r_iret hG dX10_harm_49 (⟨rfl, ⟨_, rfl⟩, rfl, rfl⟩)
    · have ha : hrAns MI ML Gn (nI f) (nI i) = (-1, 5) := by unfold hrAns; rw [if_pos hc, if_neg he]
      rw [ha]
      refine Ct_of (by decide) (Nat.le_of_ble_eq_true rfl) (fun G hG => ?_)
      refine r_iload_n 1 rfl dX10_harm_0 ?_
      refine r_Sf [.int _] dX10_harm_1 lk_X10_247 mb_X10_isFunction sc_X10_isFunction rfl (c_X10_isFunction) rfl (Nat.le_of_ble_eq_true rfl) (rfl) ?_
      refine r_ifeq (tgt := 15) dX10_harm_4 (by decide) (fun zh4 => ?_) (fun zh4 => ?_)
      · exact absurd zh4 (by rw [if_pos hc.1]; decide)
      refine r_aload_n 0 rfl dX10_harm_7 ?_
      refine r_iload_n 2 rfl dX10_harm_8 ?_
      refine r_Vf [.int _] dX10_harm_9 lk_X10_153 mb_X10_hasArc in_X10_hasArc se_X10_hasArc rfl (c_X10_hasArc hM) rfl rfl rfl (Nat.le_of_ble_eq_true rfl) (rfl) ?_
      refine r_ifne (tgt := 21) dX10_harm_12 (by decide) (fun zh12 => ?_) (fun zh12 => ?_)
      rotate_left
      · exact absurd zh12 (by rw [if_pos hc.2]; decide)
      refine r_aload_n 0 rfl dX10_harm_21 ?_
      refine r_getr dX10_harm_22 fl_X10_35 rfl (hM _ _ _ rfl) ?_
      refine r_geti dX10_harm_25 fl_X10_127 rfl ?_
      refine r_ifne (tgt := 44) dX10_harm_28 (by decide) (fun zh28 => ?_) (fun zh28 => ?_)
      rotate_left
      · exact absurd zh28 (he)
      refine r_aload_n 0 rfl dX10_harm_44 ?_
      refine r_iconst (v := 5) rfl dX10_harm_45 ?_
      refine r_Vf [.int _] dX10_harm_46 lk_X10_86 mb_X10_refuse in_X10_refuse se_X10_refuse rfl (c_X10_refuse) rfl rfl rfl (Nat.le_of_ble_eq_true rfl) (rfl) ?_
      exact r_iret hG dX10_harm_49 (⟨rfl, ⟨MI 56, by rw [sr_id]⟩, rfl, rfl⟩)
  · have ha : hrAns MI ML Gn x y = (-1, 1) := by unfold hrAns; rw [if_neg hc]
    rw [ha]
    refine Ct_of (by decide) (Nat.le_of_ble_eq_true rfl) (fun G hG => ?_)
    refine r_iload_n 1 rfl dX10_harm_0 ?_
    refine r_Sf [.int _] dX10_harm_1 lk_X10_247 mb_X10_isFunction sc_X10_isFunction rfl (c_X10_isFunction) rfl (Nat.le_of_ble_eq_true rfl) (rfl) ?_
    refine r_ifeq (tgt := 15) dX10_harm_4 (by decide) (fun zh4 => ?_) (fun zh4 => ?_)
    · refine r_aload_n 0 rfl dX10_harm_15 ?_
      refine r_iconst (v := 1) rfl dX10_harm_16 ?_
      refine r_Vf [.int _] dX10_harm_17 lk_X10_86 mb_X10_refuse in_X10_refuse se_X10_refuse rfl (c_X10_refuse) rfl rfl rfl (Nat.le_of_ble_eq_true rfl) (rfl) ?_
      exact r_iret hG dX10_harm_20 (⟨rfl, ⟨MI 56, by rw [sr_id]⟩, rfl, rfl⟩)
    · refine r_aload_n 0 rfl dX10_harm_7 ?_
      refine r_iload_n 2 rfl dX10_harm_8 ?_
      refine r_Vf [.int _] dX10_harm_9 lk_X10_153 mb_X10_hasArc in_X10_hasArc se_X10_hasArc rfl (c_X10_hasArc hM) rfl rfl rfl (Nat.le_of_ble_eq_true rfl) (rfl) ?_
      refine r_ifne (tgt := 21) dX10_harm_12 (by decide) (fun zh12 => ?_) (fun zh12 => ?_)
      · exfalso
        have y1 : inR x 5 = true := by
          cases z : inR x 5
          · rw [z] at zh4; exact absurd rfl zh4
          · rfl
        have y2 : inR y (MI 1 6) = true := by
          cases z : inR y (MI 1 6)
          · rw [z] at zh12; exact absurd rfl zh12
          · rfl
        exact hc ⟨y1, y2⟩
      · refine r_aload_n 0 rfl dX10_harm_15 ?_
        refine r_iconst (v := 1) rfl dX10_harm_16 ?_
        refine r_Vf [.int _] dX10_harm_17 lk_X10_86 mb_X10_refuse in_X10_refuse se_X10_refuse rfl (c_X10_refuse) rfl rfl rfl (Nat.le_of_ble_eq_true rfl) (rfl) ?_
        exact r_iret hG dX10_harm_20 (⟨rfl, ⟨MI 56, by rw [sr_id]⟩, rfl, rfl⟩)
def glO (MI : Mi) (ML : Nat → Nat → Int64) (Gn A f : Nat) : Option Nat := (List.range A).find? (fun i => decide (¬ hmV MI ML Gn f i = 0))
def glAns (MI : Mi) (ML : Nat → Nat → Int64) (Gn A : Nat) (x : Int32) : Int32 × Int32 := if funTr MI x = 0 then (opt2 (glO MI ML Gn A x.toNatClampNeg), 0) else (-1, funTr MI x)
theorem hmV_56 {g : Nat → Int32} {Gn f i : Nat} : hmV (sr MI 56 g) ML Gn f i = hmV MI ML Gn f i := by
  have e : ∀ b, b ≠ 56 → sr MI 56 g b = MI b := fun b h => sr_ne _ _ h
  have hS : ∀ bu bo fm z fl k, hmS (sr MI 56 g) ML (nI f) bu bo fm z fl k = hmS MI ML (nI f) bu bo fm z fl k := fun bu bo fm z fl k => by
    induction k with
    | zero => rfl
    | succ k ih => rw [hmS, hmS, ih, e 12 (by decide), e 13 (by decide)]
  have hg : ∀ w k, gtP (sr MI 56 g) ML (nI f) w k = gtP MI ML (nI f) w k := fun w k => by unfold gtP; rw [e 12 (by decide), e 13 (by decide)]
  have hfr : frMI (sr MI 56 g) (nI i) (nI f) = frMI MI (nI i) (nI f) := frMI_congr (fun b hb => e b (by omega)) _ _
  unfold hmV hdA
  simp only [hS, hg, hfr]
  rw [e 51 (by decide), e 52 (by decide), e 53 (by decide), e 54 (by decide), e 55 (by decide)]
set_option maxRecDepth 100000 in
theorem c_X10_glitch (hM : x_Lay MR) {A Gn : Nat} (hA : A ≤ 8) (hAr : MI 1 6 = nI A) (hGn16 : Gn ≤ 16) (hGr : MI 1 8 = nI Gn) {x : Int32} : Ct X yX10_glitch cX10_glitch 4 (some .int) 6 0 0 [.ref 0, .int x] n SH MI ML MR n SH (fun r0 W B C => r0 = some (.int (glAns MI ML Gn A x).1) ∧ (∃ g, W = u2 (sr MI 56 g) 0 8 (glAns MI ML Gn A x).2) ∧ B = ML ∧ C = MR) := by
  by_cases hx : funTr MI x = 0
  · obtain ⟨⟨f, hf, rfl⟩, hmt⟩ := funTr_ex hx
    have ha : glAns MI ML Gn A (nI f) = (opt2 (glO MI ML Gn A f), 0) := by unfold glAns; rw [if_pos hx, nI_clamp (by omega)]
    rw [ha]
    refine Ct_of (by decide) (Nat.le_of_ble_eq_true rfl) (fun G hG => ?_)
    have loop : ∀ i, i ≤ A → ∀ g, (∀ k, k < i → hmV MI ML Gn f k = 0) → RW X G RX10 cX10_glitch 4 (x_rm 6 0 0) n SH (sr MI 56 g) ML MR 0 0 18 [(3, .int (nI i)), (2, .int (funTr MI (nI f))), (0, .ref 0), (1, .int (nI f))] [] := by
      refine bwd (fun i hi ih g hk => ?_)
      have hsome : i < A → ¬ hmV MI ML Gn f i = 0 → glO MI ML Gn A f = some i := fun hlt hb => by
        unfold glO
        rw [List.find?_range_eq_some]
        exact ⟨decide_eq_true hb, List.mem_range.mpr hlt, fun k hk2 => by rw [hk k hk2]; rfl⟩
      have hnone : i = A → glO MI ML Gn A f = none := fun e => by
        unfold glO
        rw [List.find?_eq_none]
        intro k hk2
        rw [hk k (by rw [e]; exact List.mem_range.mp hk2)]
        decide
      have e1 : sr MI 56 g 1 = MI 1 := sr_ne _ _ (by decide)
      refine r_iload_n 0 rfl dX10_glitch_18 ?_
      refine r_aload_n 2 rfl dX10_glitch_19 ?_
      refine r_getr dX10_glitch_20 fl_X10_10 rfl (hM _ _ _ rfl) ?_
      refine r_geti dX10_glitch_23 fl_X10_112 rfl ?_
      refine r_icmpge (tgt := 50) dX10_glitch_26 (by decide) (fun zh26 => ?_) (fun zh26 => ?_)
      · rw [e1, hAr] at zh26
        have hie : i = A := by have := geL (k := A) (by omega) (by omega) zh26; omega
        refine r_aload_n 2 rfl dX10_glitch_50 ?_
        refine r_bipush (v := (-2)) rfl dX10_glitch_51 ?_
        refine r_Vf [.int _] dX10_glitch_53 lk_X10_115 mb_X10_told in_X10_told se_X10_told rfl (c_X10_told) rfl rfl rfl (Nat.le_of_ble_eq_true rfl) (rfl) ?_
        exact r_iret hG dX10_glitch_56 (⟨by rw [hnone hie]; rfl, ⟨g, rfl⟩, rfl, rfl⟩)
      · rw [e1, hAr] at zh26
        have hlt : i < A := ltL (by omega) zh26
        refine r_aload_n 2 rfl dX10_glitch_29 ?_
        refine r_iload_n 3 rfl dX10_glitch_30 ?_
        refine r_iload_n 0 rfl dX10_glitch_31 ?_
        refine r_Vf [.int _, .int _] dX10_glitch_32 lk_X10_250 mb_X10_harmBy in_X10_harmBy se_X10_harmBy rfl (c_X10_harmBy hM hGn16 (by rw [e1]; exact hGr) hf (show i < 8 by omega)) rfl rfl rfl (Nat.le_of_ble_eq_true rfl) (rfl) ?_
        refine r_ifeq (tgt := 44) dX10_glitch_35 (by decide) (fun zh35 => ?_) (fun zh35 => ?_)
        · rw [hmV_56] at zh35
          refine r_iinc (v := (nI (i + 1))) (ls2 := [(3, .int (nI (i + 1))), (2, .int (funTr MI (nI f))), (0, .ref 0), (1, .int (nI f))]) 0 dX10_glitch_44 rfl (x_inc i) (by decide) rfl ?_
          refine r_goto (tgt := 18) dX10_glitch_47 (by decide) ?_
          refine r_mem ?_ rfl rfl (ih hlt (layL (sr MI 56 g 56) (frMI (sr MI 56 g) (nI i) (nI f))) (fun k hk2 => ?_))
          · unfold fdM6
            rw [sr_sr]
          · rcases Nat.lt_or_ge k i with q | q
            · exact hk k q
            · obtain rfl : k = i := by omega
              exact zh35
        · rw [hmV_56] at zh35
          refine r_aload_n 2 rfl dX10_glitch_38 ?_
          refine r_iload_n 0 rfl dX10_glitch_39 ?_
          refine r_Vf [.int _] dX10_glitch_40 lk_X10_115 mb_X10_told in_X10_told se_X10_told rfl (c_X10_told) rfl rfl rfl (Nat.le_of_ble_eq_true rfl) (rfl) ?_
          exact r_iret hG dX10_glitch_43 (⟨by rw [hsome hlt zh35]; rfl, ⟨_, by unfold fdM6; rw [sr_sr]⟩, rfl, rfl⟩)
    refine r_aload_n 0 rfl dX10_glitch_0 ?_
    refine r_iload_n 1 rfl dX10_glitch_1 ?_
    refine r_Vf [.int _] dX10_glitch_2 lk_X10_172 mb_X10_functionTrouble in_X10_functionTrouble se_X10_functionTrouble rfl (c_X10_functionTrouble hM) rfl rfl rfl (Nat.le_of_ble_eq_true rfl) (rfl) ?_
    refine r_istore_n (ls2 := [(2, .int (funTr MI (nI f))), (0, .ref 0), (1, .int (nI f))]) dX10_glitch_5 (by decide) rfl ?_
    refine r_iload_n 0 rfl dX10_glitch_6 ?_
    refine r_ifeq (tgt := 16) dX10_glitch_7 (by decide) (fun zh7 => ?_) (fun zh7 => ?_)
    rotate_left
    · exact absurd zh7 (fun q => q hx)
    refine r_iconst (v := 0) rfl dX10_glitch_16 ?_
    refine r_istore_n (ls2 := [(3, .int 0), (2, .int (funTr MI (nI f))), (0, .ref 0), (1, .int (nI f))]) dX10_glitch_17 (by decide) rfl ?_
    refine r_mem ?_ rfl rfl (r_sub [0, 1, 2, 3] rfl (loop 0 (Nat.zero_le _) (MI 56) (fun k hk => absurd hk (Nat.not_lt_zero k))))
    rw [sr_id]
  · have ha : glAns MI ML Gn A x = (-1, funTr MI x) := by unfold glAns; rw [if_neg hx]
    rw [ha]
    refine Ct_of (by decide) (Nat.le_of_ble_eq_true rfl) (fun G hG => ?_)
    refine r_aload_n 0 rfl dX10_glitch_0 ?_
    refine r_iload_n 1 rfl dX10_glitch_1 ?_
    refine r_Vf [.int _] dX10_glitch_2 lk_X10_172 mb_X10_functionTrouble in_X10_functionTrouble se_X10_functionTrouble rfl (c_X10_functionTrouble hM) rfl rfl rfl (Nat.le_of_ble_eq_true rfl) (rfl) ?_
    refine r_istore_n (ls2 := [(2, .int (funTr MI x)), (0, .ref 0), (1, .int x)]) dX10_glitch_5 (by decide) rfl ?_
    refine r_iload_n 0 rfl dX10_glitch_6 ?_
    refine r_ifeq (tgt := 16) dX10_glitch_7 (by decide) (fun zh7 => ?_) (fun zh7 => ?_)
    · exact absurd zh7 (hx)
    refine r_aload_n 1 rfl dX10_glitch_10 ?_
    refine r_iload_n 0 rfl dX10_glitch_11 ?_
    refine r_Vf [.int _] dX10_glitch_12 lk_X10_86 mb_X10_refuse in_X10_refuse se_X10_refuse rfl (c_X10_refuse) rfl rfl rfl (Nat.le_of_ble_eq_true rfl) (rfl) ?_
    exact r_iret hG dX10_glitch_15 (⟨rfl, ⟨MI 56, by rw [sr_id]⟩, rfl, rfl⟩)
end class2

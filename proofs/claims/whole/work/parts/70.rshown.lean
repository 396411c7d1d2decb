/-! the reference: settles, settled, shown -/
theorem rrT_p {W : Mi} {x : Int32} (h : ¬ rrT W x = 0) : 0 < rrT W x := by
  unfold rrT at h ⊢
  split
  · rename_i h1
    rw [if_pos h1] at h
    split
    · decide
    · rename_i h2
      rw [if_neg h2] at h
      split
      · rename_i h3
        rw [if_pos h3] at h
        split
        · rename_i h4; rw [if_pos h4] at h; exact absurd rfl h
        · decide
      · decide
  · decide
theorem rrT_0 {W : Mi} {x : Int32} (h : rrT W x = 0) : rIA W x = true ∧ ¬ 0 < W 124 27 ∧ inB (W 145 3) 0 5 = true ∧ inB (W 145 4) 0 5 = true := by
  unfold rrT at h
  split at h
  · rename_i h1
    split at h
    · exact absurd h (by decide)
    · rename_i h2
      split at h
      · rename_i h3
        split at h
        · rename_i h4; exact ⟨h1, h2, h3, h4⟩
        · exact absurd h (by decide)
      · exact absurd h (by decide)
  · exact absurd h (by decide)
def shS (W : Mi) (p : Int32) : Nat → Int32
  | 0 => 0
  | k + 1 => shS W p k ||| vaI W k p <<< (nI k &&& 31)
theorem rcS_cg {c1 c2 : Nat → Nat} {d : Nat} : ∀ q, (∀ k, k < q → c1 k = c2 k) → rcS c1 d q = rcS c2 d q := by
  intro q
  induction q with
  | zero => intro _; rfl
  | succ q ih => intro h; rw [rcS, rcS, ih (fun k hk => h k (by omega)), h q (by omega)]
section rshown
variable {X : xG} {n : Nat} {MI : Nat → Nat → Int32} {ML : Nat → Nat → Int64} {MR : Nat → Nat → Option Nat}
theorem cc_pl {V W : Mi} {A b f q : Nat} (hA : A ≤ 8) (hf : f < 5) (h : rCc V ML A b W) (h1 : W 141 f = 1) (hq : q ≤ 5) (hc : W 145 f = nI q) : ∀ k, k < q → ∃ i, i < (plR V ML A f).length ∧ W 146 (5 * f + k) = nI i ∧ ccN W f k = (plR V ML A f).getD i 0 := by
  rcases h.2 f hf with z | ⟨-, z2, z3⟩
  · rw [h1] at z; exact absurd z (by decide)
  · intro k hk
    have hl := plR_len V ML A f
    obtain ⟨i, hi, he⟩ := cqR_in (by omega) (rqL_len V (nI f) b hA) hq z3 hc k hk
    have he2 : W 146 (5 * f + k) = nI i := he
    have e4 := (rCc_pl hf h z2).2 i hi
    have hlt : (plR V ML A f).getD i 0 < 729 := prQ_lt hi
    exact ⟨i, hi, he2, by unfold ccN; rw [he2, nI_clamp (by omega), e4, nI_clamp (by omega)]⟩
/-- what another function's FEWEST leaves -/
theorem va_kp {V W W2 : Mi} {A b f g : Nat} (hA : A ≤ 8) (hg : g < 5) (hne : g ≠ f) (h : rCc V ML A b W) (h2 : rCc V ML A b W2) (hk : kpR f W W2) (h1 : W 141 g = 1) (hb : inB (W 145 g) 0 5 = true) (p : Int32) : vaI W2 g p = vaI W g p := by
  obtain ⟨k1, k2, k3⟩ := hk g hg hne
  obtain ⟨q, hq, hqe⟩ := inB_ex (N := 5) (by decide) hb
  have hl := plR_len V ML A g
  unfold vaI rcP
  rw [nI_clamp (show g < 2 ^ 31 by omega), k2, hqe, nI_clamp (show q < 2 ^ 31 by omega)]
  congr 1
  refine rcS_cg q (fun k hkq => ?_)
  obtain ⟨i, hi, a1, a2⟩ := cc_pl hA hg h h1 (by omega) hqe k hkq
  obtain ⟨j, hj, b1, b2'⟩ := cc_pl hA hg h2 (k1.trans h1) (by omega) (k2.trans hqe) k hkq
  have e : i = j := (nI_eq (by omega) (by omega)).mp (a1.symm.trans ((k3 k (by omega)).symm.trans b1))
  rw [a2, b2', e]
theorem shS_kp {V W W2 : Mi} {A b f : Nat} (hA : A ≤ 8) (h : rCc V ML A b W) (h2 : rCc V ML A b W2) (hk : kpR f W W2) (p : Int32) : ∀ k, k ≤ f → k ≤ 5 → (∀ g, g < k → W 141 g = 1 ∧ inB (W 145 g) 0 5 = true) → shS W2 p k = shS W p k := by
  intro k
  induction k with
  | zero => intro _ _ _; rfl
  | succ k ih =>
    intro h1 h5 hall
    rw [shS, shS, ih (by omega) (by omega) (fun g hg => hall g (by omega)), va_kp hA (by omega) (by omega) h h2 hk (hall k (by omega)).1 (hall k (by omega)).2 p]
end rshown

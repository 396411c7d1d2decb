/-! the memory behind both constructors (gen/ctors.py, gen/start.tail.txt) -/
def mr0 : Nat → Nat → Option Nat := (u2 (u2 (u2 (u2 (u2 (u2 (u2 (u2 (u2 (u2 (u2 (u2 (u2 (u2 (u2 (u2 (u2 (u2 (u2 (u2 (u2 (u2 (u2 (u2 (u2 (u2 (u2 (u2 (u2 (u2 (u2 (u2 (u2 (u2 (u2 (u2 (u2 (u2 (u2 (u2 (u2 (u2 (u2 (u2 (u2 (u2 (u2 (u2 (u2 (u2 (u2 (u2 (u2 (u2 (u2 (u2 (u2 (u2 (u2 (u2 (u2 (u2 (u2 (u2 (u2 (u2 (u2 (u2 (u2 (u2 (u2 (u2 (u2 (u2 (u2 (u2 (u2 (u2 (u2 (u2 (u2 (u2 (u2 (u2 (u2 (u2 (u2 (u2 (u2 (u2 (u2 (u2 (u2 (u2 (u2 (u2 (u2 (u2 (u2 (u2 (u2 (u2 (u2 (u2 (u2 (u2 (u2 (u2 (u2 (u2 (u2 (u2 (u2 (u2 (u2 (u2 (u2 (u2 (u2 (u2 (u2 (u2 (u2 (u2 (u2 (u2 (u2 (u2 (u2 (u2 (sr (u2 (u2 (u2 (u2 (u2 (sr (u2 (u2 (u2 (u2 (u2 (u2 (sr (u2 (fun _ _ => none) 1 2 (some 2)) 3 (fun i => if i < 8 then some (3 + 1 + i) else none)) 1 7 (some 3)) 1 9 (some 12)) 1 10 (some 13)) 0 0 (some 1)) 14 0 (some 15)) 16 2 (some 17)) 18 (fun i => if i < 8 then some (18 + 1 + i) else none)) 16 7 (some 18)) 16 9 (some 27)) 16 10 (some 28)) 14 2 (some 16)) 0 1 (some 14)) 30 (fun i => if i < 12 then some (30 + 1 + i) else none)) 29 1 (some 30)) 29 0 (some 1)) 0 2 (some 29)) 43 1 (some 44)) 43 2 (some 45)) 43 3 (some 46)) 43 4 (some 47)) 48 0 (some 49)) 48 1 (some 50)) 43 5 (some 48)) 43 8 (some 51)) 43 9 (some 52)) 43 10 (some 53)) 43 11 (some 54)) 43 12 (some 55)) 43 13 (some 56)) 43 0 (some 1)) 0 3 (some 43)) 57 0 (some 58)) 0 4 (some 57)) 0 5 (some 59)) 60 1 (some 61)) 60 2 (some 62)) 60 3 (some 63)) 60 0 (some 43)) 64 0 (some 65)) 64 1 (some 66)) 62 0 (some 64)) 67 0 (some 68)) 67 1 (some 69)) 62 1 (some 67)) 70 0 (some 71)) 70 1 (some 72)) 62 2 (some 70)) 73 0 (some 74)) 73 1 (some 75)) 62 3 (some 73)) 76 0 (some 77)) 76 1 (some 78)) 62 4 (some 76)) 79 0 (some 80)) 79 1 (some 81)) 62 5 (some 79)) 82 0 (some 83)) 82 1 (some 84)) 62 6 (some 82)) 0 6 (some 60)) 85 0 (some 43)) 0 7 (some 85)) 86 0 (some 87)) 86 3 (some 88)) 89 5 (some 90)) 89 7 (some 91)) 89 8 (some 92)) 89 10 (some 93)) 89 12 (some 94)) 89 17 (some 95)) 89 1 (some 43)) 89 2 (some 57)) 89 3 (some 86)) 59 0 (some 89)) 96 5 (some 97)) 96 7 (some 98)) 96 8 (some 99)) 96 10 (some 100)) 96 12 (some 101)) 96 17 (some 102)) 96 1 (some 43)) 96 2 (some 57)) 96 3 (some 86)) 59 1 (some 96)) 103 5 (some 104)) 103 7 (some 105)) 103 8 (some 106)) 103 10 (some 107)) 103 12 (some 108)) 103 17 (some 109)) 103 1 (some 43)) 103 2 (some 57)) 103 3 (some 86)) 59 2 (some 103)) 110 5 (some 111)) 110 7 (some 112)) 110 8 (some 113)) 110 10 (some 114)) 110 12 (some 115)) 110 17 (some 116)) 110 1 (some 43)) 110 2 (some 57)) 110 3 (some 86)) 59 3 (some 110)) 117 5 (some 118)) 117 7 (some 119)) 117 8 (some 120)) 117 10 (some 121)) 117 12 (some 122)) 117 17 (some 123)) 117 1 (some 43)) 117 2 (some 57)) 117 3 (some 86)) 59 4 (some 117)) 124 3 (some 125)) 124 4 (some 126)) 124 5 (some 127)) 124 14 (some 128)) 124 15 (some 129)) 124 16 (some 130)) 124 17 (some 131)) 124 18 (some 132)) 124 23 (some 133)) 124 24 (some 134)) 124 25 (some 135)) 124 26 (some 136)) 124 29 (some 137)) 124 30 (some 138)) 124 31 (some 139)) 124 33 (some 140)) 124 34 (some 141)) 124 35 (some 142)) 124 36 (some 143)) 124 37 (some 144)) 124 38 (some 145)) 124 39 (some 146)) 124 40 (some 147)) 124 41 (some 148)) 124 42 (some 149)) 124 48 (some 150)) 124 49 (some 151)) 124 50 (some 152)) 124 51 (some 153))
def mi0 : Nat → Nat → Int32 := (muM 729 (u2 (u2 (u2 (u2 (u2 (u2 (u2 (fun _ _ => 0) 43 7 (-2)) 89 0 0) 96 0 1) 103 0 2) 110 0 3) 117 0 4) 124 2 (-1)))
def ml0 : Nat → Nat → Int64 := (cbM 729 (ktM 729 (fun _ _ => 0)))
def ents : List (Nat × Nat × Nat) := (List.range 155).flatMap (fun a => (lays.getD a []).map (fun q => (a, q.1, q.2)))
theorem lay_ents {a j b : Nat} (h : lay a j = some b) : (a, j, b) ∈ ents := by
  unfold lay at h
  have hm : ∀ (l : List (Nat × Nat)), l.lookup j = some b → (j, b) ∈ l := by
    intro l
    induction l with
    | nil => exact fun z => by cases z
    | cons q l ih =>
      intro z
      obtain ⟨q1, q2⟩ := q
      rw [List.lookup_cons] at z
      by_cases e : j = q1
      · have e1 : (j == q1) = true := by rw [e]; exact beq_self_eq_true q1
        rw [e1] at z
        have z2 : q2 = b := Option.some.inj z
        rw [e, ← z2]
        exact List.mem_cons_self
      · have e1 : (j == q1) = false := beq_eq_false_iff_ne.mpr e
        rw [e1] at z
        exact List.mem_cons_of_mem _ (ih z)
  have ha : a < 155 := by
    rcases Nat.lt_or_ge a 155 with q | q
    · exact q
    · exfalso
      have hl : lays.length = 155 := by decide +kernel
      have : lays.getD a [] = [] := by
        rw [List.getD, List.getElem?_eq_none (by rw [hl]; exact q)]
        rfl
      rw [this] at h
      cases h
  unfold ents
  exact List.mem_flatMap.mpr ⟨a, List.mem_range.mpr ha, List.mem_map.mpr ⟨(j, b), hm _ h, rfl⟩⟩
theorem start_Lay : x_Lay mr0 := by
  have h : ents.all (fun e => decide (mr0 e.1 e.2.1 = some e.2.2)) = true := by decide +kernel
  intro a j b hl
  exact of_decide_eq_true (List.all_eq_true.mp h (a, j, b) (lay_ents hl))
theorem start_Rw : x_Rw mr0 (fun j => j) := by
  have h : ∀ j, j < 12 → mr0 30 j = some (31 + j) := by decide +kernel
  exact ⟨h, fun j hj => hj, fun i j _ _ z => z⟩
theorem cbP_gb (c p : Nat) (hp : p < 64) : ∀ n, n ≤ 64 → gb (cbP c n) p = (decide (p < n) && cin c p) := by
  intro n
  induction n with
  | zero =>
    intro _
    show gb 0 p = _
    rw [gb_0]
    simp
  | succ n ih =>
    intro hn
    have h1 := ih (by omega)
    have hb := gb_bitL n (by omega) p hp
    unfold bitL at hb
    unfold cbP
    by_cases hc : cin c n = true
    · rw [if_pos hc, gb_or, h1, hb]
      by_cases e : n = p
      · subst e
        simp [hc]
      · have e2 : (p < n + 1) ↔ (p < n) := by omega
        simp [e, e2]
    · rw [if_neg hc, h1]
      by_cases e : n = p
      · subst e
        have hf : cin c n = false := by
          cases hq : cin c n with
          | false => rfl
          | true => exact absurd hq hc
        rw [hf]
        simp
      · have e2 : (p < n + 1) ↔ (p < n) := by omega
        simp [e2]
theorem start_tab : tabOK (ml0 58) ∧ tabOK (ml0 125) := by
  constructor
  · intro c hc p hp
    have e : ml0 58 c = ktb c := by
      unfold ml0 cbM ktM
      rw [if_neg (by omega), if_pos ⟨rfl, hc⟩]
    rw [e]
    exact ktb_ok c hc p hp
  · intro c hc p hp
    have e : ml0 125 c = cbP c 64 := by
      unfold ml0 cbM
      rw [if_pos ⟨rfl, hc⟩]
    rw [e, cbP_gb c p hp 64 (by decide)]
    simp [hp]
theorem start_mu : muOK mi0 := by
  intro c k hc hk
  unfold mi0 muM
  rw [if_pos ⟨rfl, by omega⟩, show (6 * c + k) / 6 = c by omega, show (6 * c + k) % 6 = k by omega]
theorem start_mi {b j : Nat} (h : ¬ b = 126) (h1 : ¬ (b = 124 ∧ j = 2)) (h2 : ¬ (b = 43 ∧ j = 7)) (h3 : ¬ (j = 0 ∧ (b = 89 ∨ b = 96 ∨ b = 103 ∨ b = 110 ∨ b = 117))) : mi0 b j = 0 := by
  unfold mi0 muM
  rw [if_neg (fun z => h z.1), u2_ne _ _ h1, u2_ne _ _ (fun z => h3 (by omega)), u2_ne _ _ (fun z => h3 (by omega)), u2_ne _ _ (fun z => h3 (by omega)), u2_ne _ _ (fun z => h3 (by omega)), u2_ne _ _ (fun z => h3 (by omega)), u2_ne _ _ h2]
theorem start_fn : ∀ f, f < 5 → mi0 (89 + 7 * f) 0 = nI f := by decide +kernel
theorem start_43 : mi0 43 7 = -2 ∧ mi0 124 2 = -1 := by decide +kernel
theorem start_ml {b j : Nat} (h : ¬ b = 58) (h1 : ¬ b = 125) : ml0 b j = 0 := by
  unfold ml0 cbM ktM
  rw [if_neg (fun z => h1 z.1), if_neg (fun z => h z.1)]

/-! how many bits a long has: the JDK's way -/
theorem wb_tb (n : Nat) : (lN n).toBitVec = BitVec.ofNat 64 n := rfl
theorem wb_inj {a b : Int64} (h : a.toBitVec = b.toBitVec) : a = b := Int64.toBitVec_inj.mp h
theorem wb_tn {n : Nat} (h : n < 2 ^ 64) : (lN n).toBitVec.toNat = n := by rw [wb_tb, BitVec.toNat_ofNat, Nat.mod_eq_of_lt h]
theorem wb_of (x : Int64) : ∃ n, n < 2 ^ 64 ∧ x = lN n := ⟨x.toBitVec.toNat, x.toBitVec.isLt, wb_inj (by rw [wb_tb]; simp)⟩
theorem wb_cu : ∀ k, k < 64 → ((nI k).toInt64.toUInt64 &&& Int64.toUInt64 63) = UInt64.ofNat k := by decide +kernel
theorem wb_shr {n k : Nat} (hn : n < 2 ^ 64) (hk : k < 64) : ((lN n).toUInt64 >>> ((nI k).toInt64.toUInt64 &&& Int64.toUInt64 63)).toInt64 = lN (n / 2 ^ k) := by
  rw [wb_cu k hk]
  apply wb_inj
  apply BitVec.eq_of_toNat_eq
  show ((lN n).toUInt64 >>> UInt64.ofNat k).toNat = (BitVec.ofNat 64 _).toNat
  have h1 : (UInt64.ofNat k).toNat = k := by
    show (BitVec.ofNat 64 k).toNat = k
    rw [BitVec.toNat_ofNat, Nat.mod_eq_of_lt (by omega)]
  have h2 : (lN n).toUInt64.toNat = n := wb_tn hn
  rw [UInt64.toNat_shiftRight, h1, h2, Nat.mod_eq_of_lt hk, Nat.shiftRight_eq_div_pow, BitVec.toNat_ofNat, Nat.mod_eq_of_lt (Nat.lt_of_le_of_lt (Nat.div_le_self _ _) hn)]
theorem wb_and {a b : Nat} (ha : a < 2 ^ 64) (hb : b < 2 ^ 64) : lN a &&& lN b = lN (a &&& b) := by
  apply wb_inj
  rw [Int64.toBitVec_and, wb_tb, wb_tb, wb_tb]
  apply BitVec.eq_of_toNat_eq
  rw [BitVec.toNat_and, BitVec.toNat_ofNat, BitVec.toNat_ofNat, BitVec.toNat_ofNat, Nat.mod_eq_of_lt ha, Nat.mod_eq_of_lt hb, Nat.mod_eq_of_lt (Nat.and_lt_two_pow _ hb)]
theorem and_split {a b c d k : Nat} (hb : b < 2 ^ k) (hd : d < 2 ^ k) : (2 ^ k * a + b) &&& (2 ^ k * c + d) = 2 ^ k * (a &&& c) + (b &&& d) := by
  apply Nat.eq_of_testBit_eq
  intro j
  rw [Nat.testBit_and, Nat.testBit_two_pow_mul_add a hb, Nat.testBit_two_pow_mul_add c hd, Nat.testBit_two_pow_mul_add (a &&& c) (Nat.and_lt_two_pow b hd)]
  split
  · rw [Nat.testBit_and]
  · rw [Nat.testBit_and]
theorem and16 {a b c d : Nat} (hb : b < 16) (hd : d < 16) : (16 * a + b) &&& (16 * c + d) = 16 * (a &&& c) + (b &&& d) := and_split (k := 4) hb hd
theorem and256 {a b c d : Nat} (hb : b < 256) (hd : d < 256) : (256 * a + b) &&& (256 * c + d) = 256 * (a &&& c) + (b &&& d) := and_split (k := 8) hb hd
/-- digits to the base of 16, each by itself -/
def mapN (g : Nat → Nat) : Nat → Nat → Nat
  | 0, _ => 0
  | k + 1, n => 16 * mapN g k (n / 16) + g (n % 16)
def rep (m : Nat) : Nat → Nat
  | 0 => 0
  | k + 1 => 16 * rep m k + m
def g1 (d : Nat) : Nat := d - (d / 2 &&& 5)
def g2 (d : Nat) : Nat := (d &&& 3) + (d / 4 &&& 3)
def pc4 (d : Nat) : Nat := g2 (g1 d)
theorem q1 : ∀ d, d < 16 → ∀ e, e < 2 → (8 * e + d / 2) &&& 5 = d / 2 &&& 5 := by decide +kernel
theorem q2 : ∀ d, d < 16 → ∀ e, e < 4 → (4 * e + d / 4) &&& 3 = d / 4 &&& 3 := by decide +kernel
theorem q3 : ∀ d, d < 16 → g1 d < 16 ∧ d / 2 &&& 5 ≤ d ∧ g2 d < 16 ∧ pc4 d ≤ 4 := by decide +kernel
theorem st1_eq : ∀ k n, n < 16 ^ k → n - (n / 2 &&& rep 5 k) = mapN g1 k n := by
  intro k
  induction k with
  | zero => intro n h; rw [Nat.pow_zero] at h; rw [show n = 0 by omega]; rfl
  | succ k ih =>
    intro n h
    have hq : n / 16 < 16 ^ k := by
      rw [Nat.div_lt_iff_lt_mul (by decide), ← Nat.pow_succ]; exact h
    have hd : n % 16 < 16 := Nat.mod_lt _ (by decide)
    obtain ⟨q, hqe⟩ : ∃ q, q = n / 16 := ⟨_, rfl⟩
    obtain ⟨d, hde⟩ : ∃ d, d = n % 16 := ⟨_, rfl⟩
    have hn : n = 16 * q + d := by omega
    rw [mapN, rep, ← hqe, ← hde, ← ih q (hqe ▸ hq), hn]
    have e1 : (16 * q + d) / 2 = 16 * (q / 2) + (8 * (q % 2) + d / 2) := by omega
    have hle : q / 2 &&& rep 5 k ≤ q := Nat.le_trans Nat.and_le_left (Nat.div_le_self _ _)
    have h3 := q3 d (by omega)
    rw [e1, and16 (by omega) (by decide), q1 d (by omega) _ (by omega)]
    unfold g1
    omega
theorem st2_eq : ∀ k n, (n &&& rep 3 k) + (n / 4 &&& rep 3 k) = mapN g2 k n := by
  intro k
  induction k with
  | zero => intro n; rw [rep, Nat.and_zero, Nat.and_zero]; rfl
  | succ k ih =>
    intro n
    obtain ⟨q, hqe⟩ : ∃ q, q = n / 16 := ⟨_, rfl⟩
    obtain ⟨d, hde⟩ : ∃ d, d = n % 16 := ⟨_, rfl⟩
    have hn : n = 16 * q + d := by omega
    have hd : d < 16 := by omega
    rw [mapN, rep, ← hqe, ← hde, ← ih q, hn]
    have e1 : (16 * q + d) / 4 = 16 * (q / 4) + (4 * (q % 4) + d / 4) := by omega
    rw [e1, and16 hd (by decide), and16 (by omega) (by decide), q2 d hd _ (by omega)]
    unfold g2
    omega
theorem mapN_map {g h : Nat → Nat} (hg : ∀ d, d < 16 → g d < 16) : ∀ k n, mapN h k (mapN g k n) = mapN (fun d => h (g d)) k n := by
  intro k
  induction k with
  | zero => intro n; rfl
  | succ k ih =>
    intro n
    have hl := hg (n % 16) (Nat.mod_lt _ (by decide))
    rw [mapN, mapN, mapN, ← ih]
    have e1 : (16 * mapN g k (n / 16) + g (n % 16)) / 16 = mapN g k (n / 16) := by omega
    have e2 : (16 * mapN g k (n / 16) + g (n % 16)) % 16 = g (n % 16) := by omega
    rw [e1, e2]
theorem mapN_lt {g : Nat → Nat} (hg : ∀ d, d < 16 → g d < 16) : ∀ k n, mapN g k n < 16 ^ k := by
  intro k
  induction k with
  | zero => intro n; exact Nat.one_pos
  | succ k ih =>
    intro n
    have h1 := ih (n / 16)
    have hl := hg (n % 16) (Nat.mod_lt _ (by decide))
    rw [mapN, Nat.pow_succ]
    omega
/-- digits to the base of 256 -/
def mapB : Nat → Nat → Nat
  | 0, _ => 0
  | k + 1, n => 256 * mapB k (n / 256) + (pc4 (n % 16) + pc4 (n / 16 % 16))
def repB : Nat → Nat
  | 0 => 0
  | k + 1 => 256 * repB k + 15
theorem mapN_m16 (k n : Nat) : mapN pc4 k n % 16 ≤ 4 := by
  cases k with
  | zero => exact Nat.zero_le _
  | succ k =>
    have := (q3 (n % 16) (Nat.mod_lt _ (by decide))).2.2.2
    rw [mapN]
    omega
theorem st3_eq : ∀ k n, (mapN pc4 (2 * k) n + mapN pc4 (2 * k) n / 16) &&& repB k = mapB k n := by
  intro k
  induction k with
  | zero => intro n; exact Nat.and_zero _
  | succ k ih =>
    intro n
    have p0 := (q3 (n % 16) (Nat.mod_lt _ (by decide))).2.2.2
    have p1 := (q3 (n / 16 % 16) (Nat.mod_lt _ (by decide))).2.2.2
    have e0 : mapN pc4 (2 * (k + 1)) n = 16 * (16 * mapN pc4 (2 * k) (n / 256) + pc4 (n / 16 % 16)) + pc4 (n % 16) := by
      rw [show 2 * (k + 1) = 2 * k + 1 + 1 by omega, mapN, mapN, Nat.div_div_eq_div_mul]
    have hm := mapN_m16 (2 * k) (n / 256)
    rw [e0, mapB, repB, ← ih (n / 256)]
    obtain ⟨M, hM⟩ : ∃ M, M = mapN pc4 (2 * k) (n / 256) := ⟨_, rfl⟩
    obtain ⟨a, ha⟩ : ∃ a, a = pc4 (n % 16) := ⟨_, rfl⟩
    obtain ⟨b, hb⟩ : ∃ b, b = pc4 (n / 16 % 16) := ⟨_, rfl⟩
    rw [← hM] at hm
    rw [← hM, ← ha, ← hb]
    rw [← ha] at p0
    rw [← hb] at p1
    have e1 : 16 * (16 * M + b) + a + (16 * (16 * M + b) + a) / 16 = 256 * (M + M / 16) + (16 * (M % 16 + b) + (a + b)) := by omega
    rw [e1, and256 (by omega) (by decide), show (16 * (M % 16 + b) + (a + b)) &&& 15 = (16 * (M % 16 + b) + (a + b)) % 16 from Nat.and_two_pow_sub_one_eq_mod _ 4]
    omega
def sumB : Nat → Nat → Nat
  | 0, _ => 0
  | k + 1, n => sumB k (n / 256) + (pc4 (n % 16) + pc4 (n / 16 % 16))
theorem owy_add (f : Nat → Bool) (a : Nat) : ∀ b, owy f (a + b) = owy f a + owy (fun k => f (a + k)) b := by
  intro b
  induction b with
  | zero => rfl
  | succ b ih => rw [show a + (b + 1) = (a + b) + 1 by omega, owy, owy, ih, Nat.add_assoc]
theorem owy_cg {f g : Nat → Bool} : ∀ k, (∀ i, i < k → f i = g i) → owy f k = owy g k := by
  intro k
  induction k with
  | zero => intro _; rfl
  | succ k ih => intro h; rw [owy, owy, ih (fun i hi => h i (by omega)), h k (by omega)]
theorem q4 : ∀ n, n < 256 → owy (fun j => n.testBit j) 8 = pc4 (n % 16) + pc4 (n / 16 % 16) := by decide +kernel
theorem sumB_eq : ∀ k n, sumB k n = owy (fun j => n.testBit j) (8 * k) := by
  intro k
  induction k with
  | zero => intro n; rfl
  | succ k ih =>
    intro n
    have h4 := q4 (n % 256) (Nat.mod_lt _ (by decide))
    rw [show n % 256 % 16 = n % 16 by omega, show n % 256 / 16 % 16 = n / 16 % 16 by omega] at h4
    rw [sumB, ih, ← h4, show 8 * (k + 1) = 8 + 8 * k by omega, owy_add, Nat.add_comm]
    congr 1
    · refine owy_cg 8 (fun j hj => ?_)
      show (n % 2 ^ 8).testBit j = n.testBit j
      rw [Nat.testBit_mod_two_pow, decide_eq_true hj, Bool.true_and]
    · refine owy_cg (8 * k) (fun j hj => ?_)
      show (n / 2 ^ 8).testBit j = n.testBit (8 + j)
      rw [Nat.testBit_div_two_pow, Nat.add_comm]
theorem sumB8 (n : Nat) : ∃ b0 b1 b2 b3 b4 b5 b6 b7, (b0 ≤ 8 ∧ b1 ≤ 8 ∧ b2 ≤ 8 ∧ b3 ≤ 8 ∧ b4 ≤ 8 ∧ b5 ≤ 8 ∧ b6 ≤ 8 ∧ b7 ≤ 8) ∧ mapB 8 n = b0 + 256 * (b1 + 256 * (b2 + 256 * (b3 + 256 * (b4 + 256 * (b5 + 256 * (b6 + 256 * b7)))))) ∧ sumB 8 n = b0 + b1 + b2 + b3 + b4 + b5 + b6 + b7 := by
  have hb : ∀ m, pc4 (m % 16) + pc4 (m / 16 % 16) ≤ 8 := fun m => by
    have p0 := (q3 (m % 16) (Nat.mod_lt _ (by decide))).2.2.2
    have p1 := (q3 (m / 16 % 16) (Nat.mod_lt _ (by decide))).2.2.2
    omega
  have sB : ∀ k m, mapB (k + 1) m = (pc4 (m % 16) + pc4 (m / 16 % 16)) + 256 * mapB k (m / 256) := fun k m => Nat.add_comm _ _
  refine ⟨_, _, _, _, _, _, _, _, ⟨hb n, hb (n / 256), hb (n / 256 / 256), hb (n / 256 / 256 / 256), hb (n / 256 / 256 / 256 / 256), hb (n / 256 / 256 / 256 / 256 / 256), hb (n / 256 / 256 / 256 / 256 / 256 / 256), hb (n / 256 / 256 / 256 / 256 / 256 / 256 / 256)⟩, ?_, ?_⟩
  · rw [sB 7, sB 6, sB 5, sB 4, sB 3, sB 2, sB 1, sB 0]
    rfl
  · simp only [sumB]
    omega
theorem pf1 {b R : Nat} (h : b < 256) : (b + 256 * R) / 256 = R := by omega
theorem pf2 {b0 b1 b2 R S : Nat} (h0 : b0 ≤ 8) (h1 : b1 ≤ 8) (h2 : b2 ≤ 8) : ((b0 + 256 * (b1 + 256 * R)) + (b1 + 256 * (b2 + 256 * S))) / 65536 = R + S := by omega
theorem pf3 {b0 b1 b2 b3 b4 b5 b6 R S T U : Nat} (h0 : b0 ≤ 8) (h1 : b1 ≤ 8) (h2 : b2 ≤ 8) (h3 : b3 ≤ 8) (h4 : b4 ≤ 8) (h5 : b5 ≤ 8) (h6 : b6 ≤ 8) : ((b0 + 256 * (b1 + 256 * (b2 + 256 * (b3 + 256 * R)))) + (b1 + 256 * (b2 + 256 * (b3 + 256 * (b4 + 256 * S)))) + ((b2 + 256 * (b3 + 256 * (b4 + 256 * (b5 + 256 * T)))) + (b3 + 256 * (b4 + 256 * (b5 + 256 * (b6 + 256 * U)))))) / 4294967296 = R + S + (T + U) := by omega
theorem pf4 {x0 x1 x2 x3 x4 x5 x6 x7 b0 b1 b2 b3 b4 b5 b6 b7 : Nat} (h0 : b0 ≤ 8) (h1 : b1 ≤ 8) (h2 : b2 ≤ 8) (h3 : b3 ≤ 8) (h4 : b4 ≤ 8) (h5 : b5 ≤ 8) (h6 : b6 ≤ 8) (h7 : b7 ≤ 8) : ((b0 + 256 * x0) + (b1 + 256 * x1) + ((b2 + 256 * x2) + (b3 + 256 * x3)) + ((b4 + 256 * x4) + (b5 + 256 * x5) + ((b6 + 256 * x6) + (b7 + 256 * x7)))) % 128 = b0 + b1 + b2 + b3 + b4 + b5 + b6 + b7 := by omega
theorem pf5 {b0 b1 b2 b3 b4 b5 b6 b7 m : Nat} (h : b0 ≤ 8 ∧ b1 ≤ 8 ∧ b2 ≤ 8 ∧ b3 ≤ 8 ∧ b4 ≤ 8 ∧ b5 ≤ 8 ∧ b6 ≤ 8 ∧ b7 ≤ 8) (hm : m = b0 + 256 * (b1 + 256 * (b2 + 256 * (b3 + 256 * (b4 + 256 * (b5 + 256 * (b6 + 256 * b7))))))) : m < 1000000000000000000 := by omega
theorem pf6 {b0 b1 b2 b3 b4 b5 b6 b7 m : Nat} (h : b0 ≤ 8 ∧ b1 ≤ 8 ∧ b2 ≤ 8 ∧ b3 ≤ 8 ∧ b4 ≤ 8 ∧ b5 ≤ 8 ∧ b6 ≤ 8 ∧ b7 ≤ 8) (hm : m = b0 + 256 * (b1 + 256 * (b2 + 256 * (b3 + 256 * (b4 + 256 * (b5 + 256 * (b6 + 256 * b7))))))) : (m + m / 256 + (m + m / 256) / 65536 + (m + m / 256 + (m + m / 256) / 65536) / 4294967296) % 128 = b0 + b1 + b2 + b3 + b4 + b5 + b6 + b7 := by
  obtain ⟨h0, h1, h2, h3, h4, h5, h6, h7⟩ := h
  have e1 : m / 256 = b1 + 256 * (b2 + 256 * (b3 + 256 * (b4 + 256 * (b5 + 256 * (b6 + 256 * b7))))) := by rw [hm]; exact pf1 (by omega)
  have e2 : (m + m / 256) / 65536 = (b2 + 256 * (b3 + 256 * (b4 + 256 * (b5 + 256 * (b6 + 256 * b7))))) + (b3 + 256 * (b4 + 256 * (b5 + 256 * (b6 + 256 * b7)))) := by rw [e1, hm]; exact pf2 h0 h1 h2
  have e3 : (m + m / 256 + (m + m / 256) / 65536) / 4294967296 = (b4 + 256 * (b5 + 256 * (b6 + 256 * b7))) + (b5 + 256 * (b6 + 256 * b7)) + ((b6 + 256 * b7) + (b7 + 256 * 0)) := by
    rw [e2, e1, hm]
    exact pf3 h0 h1 h2 h3 h4 h5 h6
  rw [e3, e2, e1, hm]
  exact pf4 h0 h1 h2 h3 h4 h5 h6 h7
theorem mapN_top : ∀ k m, mapN pc4 k m * 15 + 4 ≤ 4 * 16 ^ k := by
  intro k
  induction k with
  | zero => intro m; exact Nat.le_refl _
  | succ k ih =>
    intro m
    have h1 := ih (m / 16)
    have h2 := (q3 (m % 16) (Nat.mod_lt _ (by decide))).2.2.2
    rw [mapN, Nat.pow_succ]
    omega
theorem st3_lt (n : Nat) : mapN pc4 16 n + mapN pc4 16 n / 16 < 2 ^ 64 := by
  have t := mapN_top 16 n
  rw [show (16 : Nat) ^ 16 = 18446744073709551616 by decide] at t
  rw [show (2 : Nat) ^ 64 = 18446744073709551616 by decide]
  omega
def pcL (x : Int64) : Nat := owy (gb x) 64
theorem pop_eq (x : Int64) : popF x = nI (pcL x) := by
  obtain ⟨n, hn, rfl⟩ := wb_of x
  have hpc : pcL (lN n) = sumB 8 n := by
    unfold pcL
    rw [sumB_eq 8 n]
    refine owy_cg 64 (fun j hj => ?_)
    unfold gb
    rw [wb_tb, BitVec.getLsbD_ofNat, decide_eq_true hj, Bool.true_and]
  have h16 : n < 16 ^ 16 := hn
  have c1 : (6148914691236517205 : Int64) = lN (rep 5 16) := by decide +kernel
  have c2 : (3689348814741910323 : Int64) = lN (rep 3 16) := by decide +kernel
  have c3 : (1085102592571150095 : Int64) = lN (repB 8) := by decide +kernel
  have r5 : rep 5 16 < 2 ^ 64 := by decide +kernel
  have r3 : rep 3 16 < 2 ^ 64 := by decide +kernel
  have rB : repB 8 < 2 ^ 64 := by decide +kernel
  have sh : ∀ (k m : Nat), k < 64 → m < 2 ^ 64 → ushL (lN m) (nI k) = lN (m / 2 ^ k) := fun k m hk hm => wb_shr hm hk
  have dl : ∀ (m k : Nat), m < 2 ^ 64 → m / k < 2 ^ 64 := fun m k hm => Nat.lt_of_le_of_lt (Nat.div_le_self _ _) hm
  -- the first
  have e1 : lN n - (ushL (lN n) 1 &&& 6148914691236517205) = lN (mapN g1 16 n) := by
    rw [c1, show (1 : Int32) = nI 1 from rfl, sh 1 n (by decide) hn, wb_and (dl n _ hn) r5, lN_sub (Nat.le_trans Nat.and_le_left (Nat.div_le_self _ _)), show n / 2 ^ 1 = n / 2 from rfl, st1_eq 16 n h16]
  have hg1 : ∀ d, d < 16 → g1 d < 16 := fun d hd => (q3 d hd).1
  have l1 : mapN g1 16 n < 2 ^ 64 := mapN_lt hg1 16 n
  have e2 : ((lN (mapN g1 16 n) &&& 3689348814741910323) + (ushL (lN (mapN g1 16 n)) 2 &&& 3689348814741910323)) = lN (mapN pc4 16 n) := by
    rw [c2, show (2 : Int32) = nI 2 from rfl, sh 2 _ (by decide) l1, wb_and l1 r3, wb_and (dl _ _ l1) r3, lN_add, show mapN g1 16 n / 2 ^ 2 = mapN g1 16 n / 4 from rfl, st2_eq, mapN_map hg1]
    rfl
  have hpc4 : ∀ d, d < 16 → pc4 d < 16 := fun d hd => by have := (q3 d hd).2.2.2; omega
  have l2 : mapN pc4 16 n < 16 ^ 16 := mapN_lt hpc4 16 n
  have l2' : mapN pc4 16 n < 2 ^ 64 := l2
  have e3 : (lN (mapN pc4 16 n) + ushL (lN (mapN pc4 16 n)) 4) &&& 1085102592571150095 = lN (mapB 8 n) := by
    rw [c3, show (4 : Int32) = nI 4 from rfl, sh 4 _ (by decide) l2', lN_add, show mapN pc4 16 n / 2 ^ 4 = mapN pc4 16 n / 16 from rfl, wb_and (st3_lt n) rB, show mapN pc4 16 n = mapN pc4 (2 * 8) n from rfl, st3_eq]
  have ef : ∀ m : Nat, (lN m).toInt32 &&& 127 = nI (m % 128) := fun m => by
    have h1 : (lN m).toInt32 = nI m := by
      apply Int32.toBitVec_inj.mp
      show (BitVec.ofNat 64 m).signExtend 32 = BitVec.ofNat 32 m
      rw [BitVec.signExtend_eq_setWidth_of_le _ (by decide)]
      apply BitVec.eq_of_toNat_eq
      simp
    rw [h1, show (127 : Int32) = nI 127 from rfl, nI_and, show m &&& 127 = m % 128 from Nat.and_two_pow_sub_one_eq_mod m 7]
  have fin : ∀ m3 : Nat, m3 < 1000000000000000000 → (lN m3 + ushL (lN m3) 8 + ushL (lN m3 + ushL (lN m3) 8) 16 + ushL (lN m3 + ushL (lN m3) 8 + ushL (lN m3 + ushL (lN m3) 8) 16) 32).toInt32 &&& 127 = nI ((m3 + m3 / 256 + (m3 + m3 / 256) / 65536 + (m3 + m3 / 256 + (m3 + m3 / 256) / 65536) / 4294967296) % 128) := by
    clear e1 e2 e3 l1 l2 l2' hpc h16 c1 c2 c3 r5 r3 rB hn
    intro m3 hm
    have t8 : (2 : Nat) ^ 8 = 256 := by decide
    have t16 : (2 : Nat) ^ 16 = 65536 := by decide
    have t32 : (2 : Nat) ^ 32 = 4294967296 := by decide
    have t64 : (2 : Nat) ^ 64 = 18446744073709551616 := by decide
    have e4 : lN m3 + ushL (lN m3) 8 = lN (m3 + m3 / 256) := by
      rw [show (8 : Int32) = nI 8 from rfl, sh 8 _ (by decide) (by rw [t64]; omega), lN_add, t8]
    have e5 : lN (m3 + m3 / 256) + ushL (lN (m3 + m3 / 256)) 16 = lN (m3 + m3 / 256 + (m3 + m3 / 256) / 65536) := by
      rw [show (16 : Int32) = nI 16 from rfl, sh 16 _ (by decide) (by rw [t64]; omega), lN_add, t16]
    have e6 : lN (m3 + m3 / 256 + (m3 + m3 / 256) / 65536) + ushL (lN (m3 + m3 / 256 + (m3 + m3 / 256) / 65536)) 32 = lN (m3 + m3 / 256 + (m3 + m3 / 256) / 65536 + (m3 + m3 / 256 + (m3 + m3 / 256) / 65536) / 4294967296) := by
      rw [show (32 : Int32) = nI 32 from rfl, sh 32 _ (by decide) (by rw [t64]; omega), lN_add, t32]
    rw [e4, e5, e6, ef]
  obtain ⟨b0, b1, b2, b3, b4, b5, b6, b7, hb, em, es⟩ := sumB8 n
  unfold popF
  dsimp only
  rw [e1, e2, e3, fin _ (pf5 hb em), pf6 hb em, hpc, es]
theorem pcL_le (x : Int64) : pcL x ≤ 64 := owy_le _ _

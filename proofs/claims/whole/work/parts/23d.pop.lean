/-! COUNTING BITS -/
def cn (x : Nat) : Nat → Nat
  | 0 => 0
  | k + 1 => cn x k + (x.testBit k).toNat
theorem and_lane {p q m c : Nat} (hq : q < 256) (hc : c < 256) : (256 * p + q) &&& (256 * m + c) = 256 * (p &&& m) + (q &&& c) := by
  apply Nat.eq_of_testBit_eq
  intro i
  have hqc : q &&& c < 2 ^ 8 := Nat.lt_of_le_of_lt Nat.and_le_left hq
  rw [Nat.testBit_and, show (256 : Nat) = 2 ^ 8 from rfl, Nat.testBit_two_pow_mul_add p hq, Nat.testBit_two_pow_mul_add m hc, Nat.testBit_two_pow_mul_add _ hqc]
  by_cases h : i < 8
  · rw [if_pos h, if_pos h, if_pos h, Nat.testBit_and]
  · rw [if_neg h, if_neg h, if_neg h, Nat.testBit_and]
def s1 (M x : Nat) : Nat := x - ((x / 2) &&& M)
def s2 (M x : Nat) : Nat := (x &&& M) + ((x / 4) &&& M)
def s3 (M x : Nat) : Nat := (x + x / 16) &&& M
def mk (c : Nat) : Nat → Nat
  | 0 => 0
  | k + 1 => 256 * mk c k + c
theorem s1_lane {M y b : Nat} (hb : b < 256) : s1 (256 * M + 85) (256 * y + b) = 256 * s1 M y + s1 85 b := by
  unfold s1
  have e : (256 * y + b) / 2 = 256 * (y / 2) + (128 * (y % 2) + b / 2) := by omega
  have h1 : (128 * (y % 2) + b / 2) &&& 85 = (b / 2) &&& 85 := by
    have : ∀ r : Fin 2, ∀ b : Fin 256, (128 * (r : Nat) + (b : Nat) / 2) &&& 85 = ((b : Nat) / 2) &&& 85 := by decide +kernel
    exact this ⟨y % 2, by omega⟩ ⟨b, hb⟩
  rw [e, and_lane (by omega) (by omega), h1]
  have h2 : (y / 2) &&& M ≤ y := Nat.le_trans Nat.and_le_left (Nat.div_le_self y 2)
  have h3 : (b / 2) &&& 85 ≤ b := Nat.le_trans Nat.and_le_left (Nat.div_le_self b 2)
  omega
theorem s2_lane {M y c : Nat} (hc : c < 256) : s2 (256 * M + 51) (256 * y + c) = 256 * s2 M y + s2 51 c := by
  unfold s2
  have e : (256 * y + c) / 4 = 256 * (y / 4) + (64 * (y % 4) + c / 4) := by omega
  have h1 : (64 * (y % 4) + c / 4) &&& 51 = (c / 4) &&& 51 := by
    have : ∀ r : Fin 4, ∀ b : Fin 256, (64 * (r : Nat) + (b : Nat) / 4) &&& 51 = ((b : Nat) / 4) &&& 51 := by decide +kernel
    exact this ⟨y % 4, by omega⟩ ⟨c, hc⟩
  rw [e, and_lane hc (by omega), and_lane (p := y / 4) (by omega) (by omega), h1]
  omega
theorem s3_lane {M y c : Nat} (hc : c ≤ 68) (hy : y % 16 ≤ 4) : s3 (256 * M + 15) (256 * y + c) = 256 * s3 M y + s3 15 c := by
  unfold s3
  have e : 256 * y + c + (256 * y + c) / 16 = 256 * (y + y / 16) + (16 * (y % 16) + (c + c / 16)) := by omega
  have h1 : (16 * (y % 16) + (c + c / 16)) &&& 15 = (c + c / 16) &&& 15 := by
    have : ∀ r : Fin 5, ∀ b : Fin 69, (16 * (r : Nat) + ((b : Nat) + (b : Nat) / 16)) &&& 15 = ((b : Nat) + (b : Nat) / 16) &&& 15 := by decide +kernel
    exact this ⟨y % 16, by omega⟩ ⟨c, by omega⟩
  rw [e, and_lane (by omega) (by omega), h1]
def bts (b : Nat) : Nat := s2 51 (s1 85 b)
theorem bts_ok {b : Nat} (h : b < 256) : bts b ≤ 68 ∧ bts b % 16 ≤ 4 ∧ s1 85 b < 256 ∧ s3 15 (bts b) = cn b 8 := by
  have : ∀ b : Fin 256, bts (b : Nat) ≤ 68 ∧ bts (b : Nat) % 16 ≤ 4 ∧ s1 85 (b : Nat) < 256 ∧ s3 15 (bts (b : Nat)) = cn (b : Nat) 8 := by decide +kernel
  exact this ⟨b, h⟩
/-- the bytes' counts, one by one -/
def cb (x : Nat) : Nat → Nat
  | 0 => 0
  | k + 1 => 256 * cb (x / 256) k + cn (x % 256) 8
theorem lanes : ∀ (k x : Nat), x < 256 ^ k → s2 (mk 51 k) (s1 (mk 85 k) x) % 16 ≤ 4 ∧ s3 (mk 15 k) (s2 (mk 51 k) (s1 (mk 85 k) x)) = cb x k := by
  intro k
  induction k with
  | zero =>
    intro x hx
    have : x = 0 := by
      rw [Nat.pow_zero] at hx
      omega
    subst this
    decide
  | succ k ih =>
    intro x hx
    have hb : x % 256 < 256 := Nat.mod_lt _ (by omega)
    have hy : x / 256 < 256 ^ k := by
      rw [Nat.pow_succ, Nat.mul_comm] at hx
      exact Nat.div_lt_of_lt_mul hx
    obtain ⟨i1, i2⟩ := ih (x / 256) hy
    obtain ⟨b1, b2, b3, b4⟩ := bts_ok hb
    have e1 : s1 (mk 85 (k + 1)) x = 256 * s1 (mk 85 k) (x / 256) + s1 85 (x % 256) := by
      have e : x = 256 * (x / 256) + x % 256 := by omega
      show s1 (256 * mk 85 k + 85) x = _
      rw (occs := .pos [1]) [e]
      exact s1_lane hb
    have e2 : s2 (mk 51 (k + 1)) (s1 (mk 85 (k + 1)) x) = 256 * s2 (mk 51 k) (s1 (mk 85 k) (x / 256)) + bts (x % 256) := by
      rw [e1]
      exact s2_lane b3
    rw [e2]
    refine ⟨by omega, ?_⟩
    show s3 (256 * mk 15 k + 15) _ = 256 * cb (x / 256) k + _
    rw [s3_lane b1 i1, i2, b4]
theorem cn_mod {x : Nat} : ∀ k, k ≤ 8 → cn (x % 256) k = cn x k := by
  intro k
  induction k with
  | zero => intro _; rfl
  | succ k ih =>
    intro hk
    show cn (x % 256) k + _ = cn x k + _
    rw [ih (by omega), show (256 : Nat) = 2 ^ 8 from rfl, Nat.testBit_mod_two_pow, decide_eq_true (by omega), Bool.true_and]
theorem cn_div {x : Nat} : ∀ k, cn x (8 + k) = cn x 8 + cn (x / 256) k := by
  intro k
  induction k with
  | zero => rfl
  | succ k ih =>
    show cn x (8 + k) + (x.testBit (8 + k)).toNat = cn x 8 + (cn (x / 256) k + ((x / 256).testBit k).toNat)
    rw [ih, show (256 : Nat) = 2 ^ 8 from rfl, Nat.testBit_div_two_pow, Nat.add_comm k 8]
    omega
theorem cn_le {x : Nat} : ∀ k, cn x k ≤ k := by
  intro k
  induction k with
  | zero => exact Nat.le_refl 0
  | succ k ih =>
    show cn x k + (x.testBit k).toNat ≤ k + 1
    have := Bool.toNat_le (x.testBit k)
    omega
theorem cb_4 {x : Nat} (hx : x < 256 ^ 4) : (let v := cb x 4; let w := v + v / 256; let u := w + w / 65536; v < 256 ^ 4 ∧ w < 256 ^ 4 ∧ u < 256 ^ 4 ∧ u % 64 = cn x 32) := by
  have e : cn x 32 = cn (x % 256) 8 + (cn (x / 256 % 256) 8 + (cn (x / 256 / 256 % 256) 8 + cn (x / 256 / 256 / 256 % 256) 8)) := by
    rw [show 32 = 8 + (8 + (8 + 8)) from rfl, cn_div, cn_div, cn_div, cn_mod 8 (by omega), cn_mod 8 (by omega), cn_mod 8 (by omega), cn_mod 8 (by omega)]
  have h0 := cn_le (x := x % 256) 8
  have h1 := cn_le (x := x / 256 % 256) 8
  have h2 := cn_le (x := x / 256 / 256 % 256) 8
  have h3 := cn_le (x := x / 256 / 256 / 256 % 256) 8
  have e2 : cb x 4 = 256 * (256 * (256 * (256 * 0 + cn (x / 256 / 256 / 256 % 256) 8) + cn (x / 256 / 256 % 256) 8) + cn (x / 256 % 256) 8) + cn (x % 256) 8 := rfl
  rw [e, e2]
  generalize cn (x % 256) 8 = c0 at *
  generalize cn (x / 256 % 256) 8 = c1 at *
  generalize cn (x / 256 / 256 % 256) 8 = c2 at *
  generalize cn (x / 256 / 256 / 256 % 256) 8 = c3 at *
  generalize hv : 256 * (256 * (256 * (256 * 0 + c3) + c2) + c1) + c0 = v
  have k1 : v / 256 = c1 + 256 * c2 + 65536 * c3 := by omega
  have k2 : (v + v / 256) / 65536 = (c2 + c3) + 256 * c3 := by omega
  show v < 4294967296 ∧ v + v / 256 < 4294967296 ∧ v + v / 256 + (v + v / 256) / 65536 < 4294967296 ∧ (v + v / 256 + (v + v / 256) / 65536) % 64 = _
  rw [k2, k1]
  refine ⟨by omega, by omega, by omega, ?_⟩
  have k3 : v + (c1 + 256 * c2 + 65536 * c3) + (c2 + c3 + 256 * c3) = 64 * (4 * (c1 + c2 + c3) + 1024 * (c2 + c3) + 262144 * c3) + (c0 + (c1 + (c2 + c3))) := by omega
  rw [k3, Nat.mul_add_mod, Nat.mod_eq_of_lt (by omega)]
theorem d256 {c v : Nat} (h : c ≤ 8) : (256 * v + c) / 256 = v := by omega
theorem d65536 {c0 c1 c2 v2 v3 : Nat} (h0 : c0 ≤ 8) (h1 : c1 ≤ 8) (h2 : c2 ≤ 8) : (256 * (256 * v2 + c1) + c0 + (256 * (256 * v3 + c2) + c1)) / 65536 = v2 + v3 := by omega
theorem d32 {l0 l1 l2 l3 v0 v1 v2 v3 : Nat} (h0 : l0 < 1073741824) (h1 : l1 < 1073741824) (h2 : l2 < 1073741824) (h3 : l3 < 1073741824) : ((4294967296 * v0 + l0) + (4294967296 * v1 + l1) + ((4294967296 * v2 + l2) + (4294967296 * v3 + l3))) / 4294967296 = v0 + v1 + (v2 + v3) := by omega
theorem r32 {a b c d v : Nat} : 256 * (256 * (256 * (256 * v + d) + c) + b) + a = 4294967296 * v + (a + 256 * b + 65536 * c + 16777216 * d) := by omega
theorem cb_8 {x : Nat} (hx : x < 256 ^ 8) : (let v := cb x 8; let w := v + v / 256; let u := w + w / 65536; let t := u + u / 4294967296; v < 256 ^ 8 ∧ w < 256 ^ 8 ∧ u < 256 ^ 8 ∧ t < 256 ^ 8 ∧ t % 128 = cn x 64) := by
  have e : cn x 64 = cn (x % 256) 8 + (cn (x / 256 % 256) 8 + (cn (x / 256 / 256 % 256) 8 + (cn (x / 256 / 256 / 256 % 256) 8 + (cn (x / 256 / 256 / 256 / 256 % 256) 8 + (cn (x / 256 / 256 / 256 / 256 / 256 % 256) 8 + (cn (x / 256 / 256 / 256 / 256 / 256 / 256 % 256) 8 + cn (x / 256 / 256 / 256 / 256 / 256 / 256 / 256 % 256) 8)))))) := by
    rw [show 64 = 8 + (8 + (8 + (8 + (8 + (8 + (8 + 8)))))) from rfl, cn_div, cn_div, cn_div, cn_div, cn_div, cn_div, cn_div, cn_mod 8 (by omega), cn_mod 8 (by omega), cn_mod 8 (by omega), cn_mod 8 (by omega), cn_mod 8 (by omega), cn_mod 8 (by omega), cn_mod 8 (by omega), cn_mod 8 (by omega)]
  have h0 := cn_le (x := x % 256) 8
  have h1 := cn_le (x := x / 256 % 256) 8
  have h2 := cn_le (x := x / 256 / 256 % 256) 8
  have h3 := cn_le (x := x / 256 / 256 / 256 % 256) 8
  have h4 := cn_le (x := x / 256 / 256 / 256 / 256 % 256) 8
  have h5 := cn_le (x := x / 256 / 256 / 256 / 256 / 256 % 256) 8
  have h6 := cn_le (x := x / 256 / 256 / 256 / 256 / 256 / 256 % 256) 8
  have h7 := cn_le (x := x / 256 / 256 / 256 / 256 / 256 / 256 / 256 % 256) 8
  have e2 : cb x 8 = 256 * (256 * (256 * (256 * (256 * (256 * (256 * (256 * 0 + cn (x / 256 / 256 / 256 / 256 / 256 / 256 / 256 % 256) 8) + cn (x / 256 / 256 / 256 / 256 / 256 / 256 % 256) 8) + cn (x / 256 / 256 / 256 / 256 / 256 % 256) 8) + cn (x / 256 / 256 / 256 / 256 % 256) 8) + cn (x / 256 / 256 / 256 % 256) 8) + cn (x / 256 / 256 % 256) 8) + cn (x / 256 % 256) 8) + cn (x % 256) 8 := rfl
  rw [e, e2]
  generalize cn (x % 256) 8 = c0 at *
  generalize cn (x / 256 % 256) 8 = c1 at *
  generalize cn (x / 256 / 256 % 256) 8 = c2 at *
  generalize cn (x / 256 / 256 / 256 % 256) 8 = c3 at *
  generalize cn (x / 256 / 256 / 256 / 256 % 256) 8 = c4 at *
  generalize cn (x / 256 / 256 / 256 / 256 / 256 % 256) 8 = c5 at *
  generalize cn (x / 256 / 256 / 256 / 256 / 256 / 256 % 256) 8 = c6 at *
  generalize cn (x / 256 / 256 / 256 / 256 / 256 / 256 / 256 % 256) 8 = c7 at *
  generalize k7 : 256 * 0 + c7 = v7
  generalize k6 : 256 * v7 + c6 = v6
  generalize k5 : 256 * v6 + c5 = v5
  generalize k4 : 256 * v5 + c4 = v4
  generalize k3 : 256 * v4 + c3 = v3
  generalize k2 : 256 * v3 + c2 = v2
  generalize k1 : 256 * v2 + c1 = v1
  generalize k0 : 256 * v1 + c0 = v
  have q1 : v / 256 = v1 := by rw [← k0]; exact d256 h0
  have q2 : (v + v1) / 65536 = v2 + v3 := by rw [← k0, ← k1, ← k2]; exact d65536 h0 h1 h2
  have q3 : (v + v1 + (v2 + v3)) / 4294967296 = v4 + v5 + (v6 + v7) := by
    have e0 : v = 4294967296 * v4 + (c0 + 256 * c1 + 65536 * c2 + 16777216 * c3) := by rw [← k0, ← k1, ← k2, ← k3]; exact r32
    have e1 : v1 = 4294967296 * v5 + (c1 + 256 * c2 + 65536 * c3 + 16777216 * c4) := by rw [← k1, ← k2, ← k3, ← k4]; exact r32
    have e2 : v2 = 4294967296 * v6 + (c2 + 256 * c3 + 65536 * c4 + 16777216 * c5) := by rw [← k2, ← k3, ← k4, ← k5]; exact r32
    have e3 : v3 = 4294967296 * v7 + (c3 + 256 * c4 + 65536 * c5 + 16777216 * c6) := by rw [← k3, ← k4, ← k5, ← k6]; exact r32
    rw [e0, e1, e2, e3]
    clear e0 e1 e2 e3 q1 q2 k0 k1 k2 k3 k4 k5 k6 k7
    exact d32 (by omega) (by omega) (by omega) (by omega)
  show v < 18446744073709551616 ∧ v + v / 256 < 18446744073709551616 ∧ v + v / 256 + (v + v / 256) / 65536 < 18446744073709551616 ∧ v + v / 256 + (v + v / 256) / 65536 + (v + v / 256 + (v + v / 256) / 65536) / 4294967296 < 18446744073709551616 ∧ (v + v / 256 + (v + v / 256) / 65536 + (v + v / 256 + (v + v / 256) / 65536) / 4294967296) % 128 = _
  rw [q1, q2, q3]
  have g7 : v7 ≤ 8 := by clear k0 k1 k2 k3 k4 k5 k6 q1 q2 q3 e; omega
  have g6 : v6 ≤ 2056 := by clear k0 k1 k2 k3 k4 k5 k7 q1 q2 q3 e; omega
  have g5 : v5 ≤ 526344 := by clear k0 k1 k2 k3 k4 k6 k7 q1 q2 q3 e; omega
  have g4 : v4 ≤ 134744072 := by clear k0 k1 k2 k3 k5 k6 k7 q1 q2 q3 e; omega
  have g3 : v3 ≤ 34494482440 := by clear k0 k1 k2 k4 k5 k6 k7 q1 q2 q3 e; omega
  have g2 : v2 ≤ 8830587504648 := by clear k0 k1 k3 k4 k5 k6 k7 q1 q2 q3 e; omega
  have g1 : v1 ≤ 2260630401189896 := by clear k0 k2 k3 k4 k5 k6 k7 q1 q2 q3 e; omega
  have g0 : v ≤ 578721382704613384 := by clear k1 k2 k3 k4 k5 k6 k7 q1 q2 q3 e; omega
  have fin : v + v1 + (v2 + v3) + (v4 + v5 + (v6 + v7)) = 128 * (2 * v1 + 2 * v2 + 2 * v3 + 2 * v4 + 2 * v5 + 2 * v6 + 2 * v7) + (c0 + (c1 + (c2 + (c3 + (c4 + (c5 + (c6 + c7))))))) := by
    clear g0 g1 g2 g3 g4 g5 g6 g7 q1 q2 q3 e
    omega
  clear k0 k1 k2 k3 k4 k5 k6 k7 q1 q2 q3 e
  refine ⟨by omega, by omega, by omega, by omega, ?_⟩
  rw [fin, Nat.mul_add_mod, Nat.mod_eq_of_lt (by clear fin; omega)]

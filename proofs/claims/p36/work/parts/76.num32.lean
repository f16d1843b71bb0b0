-- how many bits of a long number: byte by byte
def rep8 (v : Nat) : Nat → Nat
  | 0 => 0
  | k + 1 => v + 256 * rep8 v k
theorem and_split {a r t : Nat} (ha : a < 256) (hr : r < 256) (y : Nat) : (a + 256 * y) &&& (r + 256 * t) = (a &&& r) + 256 * (y &&& t) := by
  have h1 : ((a + 256 * y) &&& (r + 256 * t)) % 2 ^ 8 = a &&& r := by
    rw [Nat.and_mod_two_pow]
    rw [show (a + 256 * y) % 2 ^ 8 = a by omega, show (r + 256 * t) % 2 ^ 8 = r by omega]
  have h2 : ((a + 256 * y) &&& (r + 256 * t)) / 2 ^ 8 = y &&& t := by
    rw [Nat.and_div_two_pow]
    rw [show (a + 256 * y) / 2 ^ 8 = y by omega, show (r + 256 * t) / 2 ^ 8 = t by omega]
  have h3 : a &&& r < 256 := Nat.lt_of_le_of_lt Nat.and_le_left ha
  omega
def p1 (m x : Nat) : Nat := x - (x / 2 &&& m)
def p2 (m x : Nat) : Nat := (x &&& m) + (x / 4 &&& m)
def p3 (m x : Nat) : Nat := x + x / 16 &&& m
theorem p1_b : ∀ b, b < 256 → ∀ r, r < 2 → (b / 2 + 128 * r) &&& 85 = b / 2 &&& 85 := by decide +kernel
theorem p2_b : ∀ b, b < 256 → ∀ r, r < 4 → (b / 4 + 64 * r) &&& 51 = b / 4 &&& 51 := by decide +kernel
theorem p1_s {b k : Nat} (hb : b < 256) (y : Nat) : p1 (rep8 85 (k + 1)) (b + 256 * y) = p1 85 b + 256 * p1 (rep8 85 k) y := by
  unfold p1
  have e : (b + 256 * y) / 2 = (b / 2 + 128 * (y % 2)) + 256 * (y / 2) := by omega
  rw [e, rep8, and_split (by omega) (by decide) _, p1_b b hb _ (Nat.mod_lt _ (by decide))]
  have h1 : b / 2 &&& 85 ≤ b / 2 := Nat.and_le_left
  have h2 : y / 2 &&& rep8 85 k ≤ y / 2 := Nat.and_le_left
  omega
theorem p2_s {b k : Nat} (hb : b < 256) (y : Nat) : p2 (rep8 51 (k + 1)) (b + 256 * y) = p2 51 b + 256 * p2 (rep8 51 k) y := by
  unfold p2
  have e : (b + 256 * y) / 4 = (b / 4 + 64 * (y % 4)) + 256 * (y / 4) := by omega
  have a1 := and_split (a := b / 4 + 64 * (y % 4)) (r := 51) (t := rep8 51 k) (by omega) (by decide) (y / 4)
  have a2 := and_split (a := b) (r := 51) (t := rep8 51 k) hb (by decide) y
  rw [e, rep8, a1, a2, p2_b b hb _ (Nat.mod_lt _ (by decide))]
  omega
theorem p3_b : ∀ b, b < 256 → b % 16 ≤ 4 → b / 16 ≤ 4 → ∀ r, r < 5 → (b + b / 16 + 16 * r) &&& 15 = (b + b / 16) &&& 15 := by decide +kernel
theorem p3_s {b k : Nat} (hb : b < 256) (h0 : b % 16 ≤ 4) (h1 : b / 16 ≤ 4) {y : Nat} (hy : y % 16 ≤ 4) : p3 (rep8 15 (k + 1)) (b + 256 * y) = p3 15 b + 256 * p3 (rep8 15 k) y := by
  unfold p3
  have e : b + 256 * y + (b + 256 * y) / 16 = (b + b / 16 + 16 * (y % 16)) + 256 * (y + y / 16) := by omega
  rw [e, rep8, and_split (by omega) (by decide) _, p3_b b hb h0 h1 _ (by omega)]
theorem p12_n : ∀ b, b < 256 → p2 51 (p1 85 b) < 256 ∧ p2 51 (p1 85 b) % 16 ≤ 4 ∧ p2 51 (p1 85 b) / 16 ≤ 4 ∧ p1 85 b < 256 ∧ p3 15 (p2 51 (p1 85 b)) = bcN b := by decide +kernel
def P12 (k x : Nat) : Nat := p2 (rep8 51 k) (p1 (rep8 85 k) x)
theorem P12_s {b k : Nat} (hb : b < 256) (y : Nat) : P12 (k + 1) (b + 256 * y) = p2 51 (p1 85 b) + 256 * P12 k y := by
  unfold P12
  rw [p1_s hb, p2_s (p12_n b hb).2.2.2.1]
theorem P12_n {k : Nat} : ∀ y, P12 (k + 1) y % 16 ≤ 4 := fun y => by
  have e : y = y % 256 + 256 * (y / 256) := by omega
  rw [e, P12_s (Nat.mod_lt _ (by decide))]
  have := p12_n (y % 256) (Nat.mod_lt _ (by decide))
  omega
def G8 (k x : Nat) : Nat := p3 (rep8 15 k) (P12 k x)
theorem G8_0 (x : Nat) : G8 0 x = 0 := by
  unfold G8 p3
  show _ &&& 0 = 0
  exact Nat.and_zero _
theorem P12_0 (x : Nat) : P12 0 x = 0 := by
  unfold P12 p2
  show (_ &&& 0) + (_ &&& 0) = 0
  rw [Nat.and_zero, Nat.and_zero]
theorem G8_s {k : Nat} (x : Nat) : G8 (k + 1) x = bcN (x % 256) + 256 * G8 k (x / 256) := by
  have e : x = x % 256 + 256 * (x / 256) := by omega
  have hb : x % 256 < 256 := Nat.mod_lt _ (by decide)
  have h := p12_n (x % 256) hb
  have hy : P12 k (x / 256) % 16 ≤ 4 := by
    cases k with
    | zero => rw [P12_0]; decide
    | succ k => exact P12_n _
  show p3 (rep8 15 (k + 1)) (P12 (k + 1) x) = _
  rw [show P12 (k + 1) x = P12 (k + 1) (x % 256 + 256 * (x / 256)) from congrArg _ e, P12_s hb, p3_s h.1 h.2.1 h.2.2.1 hy, h.2.2.2.2]
  rfl


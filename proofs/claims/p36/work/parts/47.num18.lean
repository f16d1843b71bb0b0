-- the class's own calls: villages
def bts (Fl : Nat → Nat) (fc : Nat) (V : Nat → Nat) : Nat → Nat
  | 0 => 0
  | n + 1 => bts Fl fc V n + (if V n < fc then Fl (V n) else 0)
theorem bts_le {Fl : Nat → Nat} {fc : Nat} {V : Nat → Nat} (h : ∀ j, Fl j ≤ 200) : ∀ n, bts Fl fc V n ≤ 200 * n
  | 0 => Nat.le_refl _
  | n + 1 => by
    have ih := bts_le (fc := fc) (V := V) h n
    have := h (V n)
    rw [bts]
    split <;> omega
theorem bts_y {Fl : Nat → Nat} {fc : Nat} {V : Nat → Nat} {n : Nat} (h : V n < fc) : bts Fl fc V n + Fl (V n) = bts Fl fc V (n + 1) := by rw [bts, if_pos h]
theorem bts_n {Fl : Nat → Nat} {fc : Nat} {V : Nat → Nat} {n : Nat} (h : ¬ V n < fc) : bts Fl fc V n = bts Fl fc V (n + 1) := by rw [bts, if_neg h]; rfl


-- the class's own calls: ways, and what may be done
noncomputable def cnS (w : WT) (s0 : Int32) : Nat → Nat
  | 0 => 0
  | p + 1 => if (chg w s0 (nI p)).1 = 1 then cnS w s0 p ||| 2 ^ p else cnS w s0 p
theorem cnS_lt (w : WT) (s0 : Int32) : ∀ p, p ≤ 8 → cnS w s0 p < 256
  | 0, _ => by show (0 : Nat) < 256; decide
  | p + 1, h => by
    have ih := cnS_lt w s0 p (by omega)
    rw [cnS]
    split
    · exact Nat.or_lt_two_pow (n := 8) ih (Nat.pow_lt_pow_right (by decide) (by omega))
    · exact ih
theorem cnS_y {w : WT} {s0 : Int32} {p : Nat} (h : (chg w s0 (nI p)).1 = 1) : cnS w s0 p ||| 2 ^ p = cnS w s0 (p + 1) := by rw [cnS, if_pos h]
theorem cnS_n {w : WT} {s0 : Int32} {p : Nat} (h : ¬ (chg w s0 (nI p)).1 = 1) : cnS w s0 p = cnS w s0 (p + 1) := by rw [cnS, if_neg h]
noncomputable def wyA (Q : QS) (z : Int32) : Int32 := if ansF Q = -6 then -6 else if z < ansF Q then nI (qa Q (itp (qp Q) (wlen (qp Q) (qg Q - 1) - 1 - z.toNatClampNeg) (qg Q - 1))) else -4
theorem ansF_lt {Q : QS} {z : Nat} (hz : z < 2 ^ 31) (h6 : ¬ ansF Q = -6) (h : nI z < ansF Q) : qg Q ≠ 0 := fun q => by
  by_cases k : 1500 ≤ qk Q
  · exact h6 (ansF_s q k)
  · rw [ansF_n q k] at h
    have : nI z < 0 := Int32.lt_trans h (by decide)
    exact ((z_lt hz).mp this).elim


-- a sheet scanned: the answer and the floor
noncomputable def scA (C : Nat → Int32) (sz : Nat) (f0 : Int32) (n : Nat) : Nat → FS → Nat → Int32 × FS
  | 0, F, _ => (nI n, F)
  | f + 1, F, c => if isI (f0 + nI (2 * c)) sz ∧ isI (f0 + nI (2 * c) + nI 1) sz then (if (attF (C (f0 + nI (2 * c)).toNatClampNeg) (C (f0 + nI (2 * c) + nI 1).toNatClampNeg) F).1 = 1 then scA C sz f0 n f (attF (C (f0 + nI (2 * c)).toNatClampNeg) (C (f0 + nI (2 * c) + nI 1).toNatClampNeg) F).2 (c + 1) else (-20 + (attF (C (f0 + nI (2 * c)).toNatClampNeg) (C (f0 + nI (2 * c) + nI 1).toNatClampNeg) F).1, (attF (C (f0 + nI (2 * c)).toNatClampNeg) (C (f0 + nI (2 * c) + nI 1).toNatClampNeg) F).2)) else (-12, F)
theorem scA_b {C : Nat → Int32} {sz n c : Nat} {f0 : Int32} {F : FS} (hc : c < n) (h : ¬ (isI (f0 + nI (2 * c)) sz ∧ isI (f0 + nI (2 * c) + nI 1) sz)) : scA C sz f0 n (n - c) F c = (-12, F) := by
  rw [show n - c = (n - (c + 1)) + 1 by omega, scA, if_neg h]
theorem scA_g {C : Nat → Int32} {sz n c : Nat} {f0 : Int32} {F : FS} (hc : c < n) (h : isI (f0 + nI (2 * c)) sz ∧ isI (f0 + nI (2 * c) + nI 1) sz) (h1 : (attF (C (f0 + nI (2 * c)).toNatClampNeg) (C (f0 + nI (2 * c) + nI 1).toNatClampNeg) F).1 = 1) : scA C sz f0 n (n - c) F c = scA C sz f0 n (n - (c + 1)) (attF (C (f0 + nI (2 * c)).toNatClampNeg) (C (f0 + nI (2 * c) + nI 1).toNatClampNeg) F).2 (c + 1) := by
  rw [show n - c = (n - (c + 1)) + 1 by omega, scA, if_pos h, if_pos h1]
theorem scA_s {C : Nat → Int32} {sz n c : Nat} {f0 : Int32} {F : FS} (hc : c < n) (h : isI (f0 + nI (2 * c)) sz ∧ isI (f0 + nI (2 * c) + nI 1) sz) (h1 : ¬ (attF (C (f0 + nI (2 * c)).toNatClampNeg) (C (f0 + nI (2 * c) + nI 1).toNatClampNeg) F).1 = 1) : scA C sz f0 n (n - c) F c = (-20 + (attF (C (f0 + nI (2 * c)).toNatClampNeg) (C (f0 + nI (2 * c) + nI 1).toNatClampNeg) F).1, (attF (C (f0 + nI (2 * c)).toNatClampNeg) (C (f0 + nI (2 * c) + nI 1).toNatClampNeg) F).2) := by
  rw [show n - c = (n - (c + 1)) + 1 by omega, scA, if_pos h, if_neg h1]
theorem scA_0 {C : Nat → Int32} {sz n c : Nat} {f0 : Int32} {F : FS} (hc : c = n) : scA C sz f0 n (n - c) F c = (nI n, F) := by subst hc; rw [Nat.sub_self]; rfl


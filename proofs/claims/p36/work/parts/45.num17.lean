-- the class's own calls: the ring and poses
def bgW (n : Nat) : WT := (n, fun p => p, fun p => p, 2 ^ n - 1, 2 ^ n - 1, 0)
def rgX (x : Int32) : Prop := ¬ x < 4 ∧ ¬ (8 : Int32) < x
theorem rg_nat {x : Int32} (h1 : ¬ x < nI 4) (h2 : ¬ nI 8 < x) : ∃ k, (4 ≤ k ∧ k ≤ 8) ∧ x = nI k := by
  have h0 : ¬ x < 0 := fun q => h1 (Int32.lt_trans q (by decide))
  obtain ⟨k, hk, rfl⟩ := nI_of h0
  have a : ¬ k < 4 := fun q => h1 ((nI_ltI hk (by decide)).mpr q)
  have b : ¬ 8 < k := fun q => h2 ((nI_ltI (by decide) hk).mpr q)
  exact ⟨k, by omega, rfl⟩
abbrev rgI (x : Int32) : Prop := ¬ x < nI 4 ∧ ¬ nI 8 < x
theorem rgI_y {k : Nat} (h : 4 ≤ k ∧ k ≤ 8) : rgI (nI k) := ⟨fun q => by have := (nI_ltI (by omega) (by decide)).mp q; omega, fun q => by have := (nI_ltI (by decide) (by omega)).mp q; omega⟩
def ovA (w : WT) (x y : Int32) : Int32 := if isI x (wn w) ∧ isI y (wn w) ∧ x ≠ y then (if (wo w).testBit (8 * x.toNatClampNeg + y.toNatClampNeg) = true then 1 else if (wo w).testBit (8 * y.toNatClampNeg + x.toNatClampNeg) = true then 0 else -4) else -1
theorem ovA_b {w : WT} {x y : Int32} (h : ¬ (isI x (wn w) ∧ isI y (wn w) ∧ x ≠ y)) : ovA w x y = -1 := by unfold ovA; rw [if_neg h]
theorem ovA_y {w : WT} {i j : Nat} (hn : wn w ≤ 8) (hi : i < wn w) (hj : j < wn w) (hij : i ≠ j) : ovA w (nI i) (nI j) = (if (wo w).testBit (8 * i + j) = true then 1 else if (wo w).testBit (8 * j + i) = true then 0 else -4) := by
  unfold ovA
  rw [if_pos ⟨(isI_nI (by omega) (by omega)).mpr hi, (isI_nI (by omega) (by omega)).mpr hj, fun q => hij ((nI_eq (by omega) (by omega)).mp q)⟩, nI_clamp (by omega), nI_clamp (by omega)]
theorem bgW_ok {n : Nat} (h : 4 ≤ n ∧ n ≤ 8) : WOK (bgW n) := by
  have h2 : 0 < 2 ^ n := Nat.two_pow_pos n
  refine ⟨h, ⟨fun p hp => hp, fun p hp => hp, fun p hp => rfl, fun p hp => rfl⟩, by show 2 ^ n - 1 < 2 ^ n; omega, by show 2 ^ n - 1 < 2 ^ n; omega, by show (0 : Nat) < 2 ^ 64; decide, fun k hk => ?_⟩
  have hk : (0 : Nat).testBit k = true := hk
  rw [Nat.zero_testBit] at hk
  cases hk


-- answers about blades
theorem bl_out {w : WT} {i : Nat} {what : Int32} (h : ¬ (¬ what < nI 0 ∧ ¬ nI 4 < what)) : blN w i what = -1 := by
  have hk : ∀ k, k < 5 → ¬ what = nI k := fun k hk e => h (by
    rw [e]
    have : ∀ k, k < 5 → (¬ nI k < nI 0 ∧ ¬ nI 4 < nI k) := by decide
    exact this k hk)
  unfold blN
  rw [if_neg (hk 0 (by omega)), if_neg (hk 1 (by omega)), if_neg (hk 2 (by omega)), if_neg (hk 3 (by omega)), if_neg (hk 4 (by omega))]
theorem ab_out {w : WT} {un : Nat} {what : Int32} (h : ¬ (¬ what < nI 0 ∧ ¬ nI 9 < what)) : abA w un what = -1 := by
  have hk : ∀ k, k < 10 → ¬ what = nI k := fun k hk e => h (by
    rw [e]
    have : ∀ k, k < 10 → (¬ nI k < nI 0 ∧ ¬ nI 9 < nI k) := by decide
    exact this k hk)
  unfold abA
  rw [if_neg (hk 0 (by omega)), if_neg (hk 1 (by omega)), if_neg (hk 2 (by omega)), if_neg (hk 3 (by omega)), if_neg (hk 4 (by omega)), if_neg (hk 5 (by omega)), if_neg (hk 6 (by omega)), if_neg (hk 7 (by omega)), if_neg (hk 8 (by omega)), if_neg (hk 9 (by omega))]


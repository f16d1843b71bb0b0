-- the class's own calls: what villages share
theorem nI_m4 {k : Nat} (hk : k < 2 ^ 31) : ¬ nI k = -4 := fun q => by
  have : nI k < 0 := by rw [q]; decide
  exact ((z_lt hk).mp this).elim


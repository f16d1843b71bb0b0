-- what a run answers and weaves doesn't hang on the pool of the past
theorem beatF_pool {b0 bt : Nat} {F G : FS} (h : F.1 = G.1) : (beatF b0 bt F).1 = (beatF b0 bt G).1 ∧ (beatF b0 bt F).2.1 = (beatF b0 bt G).2.1 := by
  unfold beatF attF
  rw [h]
  split
  · split
    · exact ⟨rfl, h⟩
    · exact ⟨rfl, rfl⟩
  · split
    · exact ⟨rfl, h⟩
    · split
      · exact ⟨rfl, h⟩
      · exact ⟨rfl, rfl⟩


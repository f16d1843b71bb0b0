-- figures run on a floor keep it sound
theorem beatF_fok {b0 bt : Nat} {F : FS} (h : FOK F) : FOK (beatF b0 bt F).2 := by
  unfold beatF
  split
  · split
    · exact h
    · exact (attF_ok h).1
  · split
    · exact h
    · split
      · exact h
      · exact (attF_ok h).1
theorem rn_fok {B : Nat → Nat} {len b0 : Nat} {F0 : FS} (h : FOK F0) : ∀ j, FOK (rn B len b0 F0 j).2.2
  | 0 => h
  | j + 1 => by
    have ih := rn_fok (B := B) (len := len) (b0 := b0) h j
    rw [rn]
    split
    · split
      · exact beatF_fok ih
      · exact beatF_fok ih
    · exact ih


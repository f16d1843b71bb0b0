-- the tape as the reference has it
theorem feT_c {T TP : Nat → Nat} {len vv : Nat} (h : ∀ i, i < len → TP i = T i) : ∀ j i, i < len + j → feT TP len vv j i = feT T len vv j i
  | 0, i, hi => h i hi
  | j + 1, i, hi => by
    show va_up _ _ _ i = va_up _ _ _ i
    unfold va_up
    by_cases e : i = len + j
    · rw [if_pos e, if_pos e]
    · rw [if_neg e, if_neg e]; exact feT_c h j i (by omega)
theorem k56 : ∀ j, j ≤ 8 → (nI 56 - nI (8 * j) < 0 ↔ j = 8) := by
  have h : ∀ j, j < 9 → (nI 56 - nI (8 * j) < 0 ↔ j = 8) := by decide
  exact fun j hj => h j (by omega)
theorem k56s : ∀ j, j < 8 → nI 56 - nI (8 * j) + (-8) = nI 56 - nI (8 * (j + 1)) := by decide
theorem at_v {F F4 : FS} {s k a : Int32} (hF : FOK F) (h : attF s k F = (a, F4)) : (a ≤ 0 ↔ ¬ a = 1) ∧ (a < 0 ↔ ¬ a = 1) := by
  have := chg_v (s := s) (k := k) hF.1
  have e : (chg F.1 s k).1 = a := congrArg Prod.fst h
  rw [e] at this
  exact sg1 this


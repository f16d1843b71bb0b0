-- the reference's ring as at first
def idP (m : Nat) (P : Nat → Nat) : Nat → Nat := fun j => if j < m then j else P j
theorem idP_0 (P : Nat → Nat) : idP 0 P = P := funext fun j => if_neg (Nat.not_lt_zero j)
theorem idP_s (m : Nat) (P : Nat → Nat) : va_up (idP m P) m m = idP (m + 1) P := by
  funext j
  unfold va_up idP
  by_cases e : j = m
  · subst e; rw [if_pos rfl, if_pos (by omega)]
  · rw [if_neg e]
    by_cases h : j < m
    · rw [if_pos h, if_pos (by omega)]
    · rw [if_neg h, if_neg (by omega)]
theorem v7_0 {v a : Nat} (h : v / 2 ^ (3 * 0) &&& 7 = a) : v &&& 7 = a := by
  rw [Nat.mul_zero, Nat.pow_zero, Nat.div_one] at h; exact h
theorem alA_2 {w v : WT} (h : (wn w = wn v ∧ (∀ p, p < wn w → wd w p = wd v p) ∧ wf w = wf v ∧ wh w = wh v ∧ wo w = wo v)) : alA w v = 2 := if_pos h
theorem alA_1 {w v : WT} (h : ¬ (wn w = wn v ∧ (∀ p, p < wn w → wd w p = wd v p) ∧ wf w = wf v ∧ wh w = wh v ∧ wo w = wo v)) (hw : WOK w) (hv : WOK v) (hn : wn v = wn w) (h2 : (∀ i, i < wn w → trn (wn w) (wp w) i = trn (wn w) (wp v) i) ∧ wh w = wh v ∧ wo w = wo v) : alA w v = 1 := by
  unfold alA
  rw [if_neg h, if_pos ⟨(alk_iff hw hv hn).mpr h2.1, h2.2⟩]
theorem alA_0 {w v : WT} (h : ¬ (wn w = wn v ∧ (∀ p, p < wn w → wd w p = wd v p) ∧ wf w = wf v ∧ wh w = wh v ∧ wo w = wo v)) (hw : WOK w) (hv : WOK v) (hn : wn v = wn w) (h2 : ¬ ((∀ i, i < wn w → trn (wn w) (wp w) i = trn (wn w) (wp v) i) ∧ wh w = wh v ∧ wo w = wo v)) : alA w v = 0 := by
  unfold alA
  rw [if_neg h, if_neg (fun q => h2 ⟨(alk_iff hw hv hn).mp q.1, q.2⟩)]


-- the reference's ways
theorem mf4 {m x : Nat} (hx : x < 2 ^ 31) : (if m = 0 then (-4 : Int32) else nI x) = -4 ↔ m = 0 := by
  by_cases h : m = 0
  · rw [if_pos h]; exact ⟨fun _ => h, fun _ => rfl⟩
  · rw [if_neg h]; exact ⟨fun q => absurd q (nI_m4 hx), fun q => absurd q h⟩
theorem lef0 {a z : Nat} (ha : a ≤ 1500) (hz : z < 2 ^ 31) : 0 ≤ nI a - nI 1 - nI z ↔ z + 1 ≤ a := by
  have e : (nI a - nI 1 - nI z).toInt = (a : Int) - 1 - z := by
    rw [Int32.toInt_sub, Int32.toInt_sub, nI_toInt (show a < 2 ^ 31 by omega), nI_toInt hz, nI_toInt (show 1 < 2 ^ 31 by decide)]
    have e1 : ((a : Int) - (1 : Nat)).bmod (2 ^ 32) = (a : Int) - (1 : Nat) := by apply Int.bmod_eq_of_le <;> omega
    rw [e1]
    have e2 : ((a : Int) - (1 : Nat) - z).bmod (2 ^ 32) = (a : Int) - (1 : Nat) - z := by apply Int.bmod_eq_of_le <;> omega
    rw [e2]; omega
  rw [Int32.le_iff_toInt_le, e]
  have e0 : (0 : Int32).toInt = 0 := by decide
  rw [e0]; omega
theorem lefn {a z : Nat} (h : z + 1 ≤ a) : nI a - nI 1 - nI z = nI (a - 1 - z) := by rw [pk_sub (by omega), pk_sub (by omega)]
theorem gfM_n {Q : QS} (h : 0 ≤ gfM Q) (hb : qg Q < 2 ^ 31) : qg Q ≠ 0 ∧ gfM Q = nI (qg Q - 1) ∧ ansF Q = nI (wlen (qp Q) (qg Q - 1)) := by
  rcases ansF_g (Q := Q) with q | q
  · have h2 := q.2 (Int32.not_lt.mpr h)
    refine ⟨h2.1, ?_, h2.2⟩
    unfold gfM; rw [if_neg h2.1]
  · omega
theorem gfM_0 {Q : QS} (h : ¬ 0 ≤ gfM Q) (hb : qg Q < 2 ^ 31) : ansF Q = gfM Q ∧ (gfM Q = -6 ∨ gfM Q = -4) := by
  rcases ansF_g (Q := Q) with q | q
  · refine ⟨q.1 (Int32.not_le.mp h), ?_⟩
    unfold gfM at h ⊢
    by_cases q0 : qg Q = 0
    · rw [if_pos q0]; split; exact Or.inl rfl; exact Or.inr rfl
    · rw [if_neg q0] at h
      exact absurd (nI_pos' (by omega)) h
  · omega
theorem wyA_0 {Q : QS} {z : Int32} (hz : ¬ z < 0) (h : ¬ 0 ≤ gfM Q) (hb : qg Q < 2 ^ 31) : wyA Q z = gfM Q := by
  obtain ⟨e1, e2⟩ := gfM_0 h hb
  unfold wyA
  rw [e1]
  rcases e2 with e | e
  · rw [e, if_pos rfl]
  · rw [e, if_neg (by decide), if_neg (fun q => hz (Int32.lt_trans q (by decide)))]
theorem wyA_n {Q : QS} {zn : Nat} (hz : zn < 2 ^ 31) (h : ansF Q = nI (wlen (qp Q) (qg Q - 1))) (hW : wlen (qp Q) (qg Q - 1) ≤ 1500) (hn : ¬ zn + 1 ≤ wlen (qp Q) (qg Q - 1)) : wyA Q (nI zn) = -4 := by
  unfold wyA
  rw [h, if_neg, if_neg (nI_nlt (by omega) (by omega))]
  intro q
  have h1 : (0 : Int32) ≤ nI (wlen (qp Q) (qg Q - 1)) := nI_pos' (by omega)
  rw [q] at h1
  exact absurd h1 (by decide)
theorem wyA_y {Q : QS} {zn : Nat} (hz : zn < 2 ^ 31) (h : ansF Q = nI (wlen (qp Q) (qg Q - 1))) (hW : wlen (qp Q) (qg Q - 1) ≤ 1500) (hn : zn + 1 ≤ wlen (qp Q) (qg Q - 1)) : wyA Q (nI zn) = nI (qa Q (itp (qp Q) (wlen (qp Q) (qg Q - 1) - 1 - zn) (qg Q - 1))) := by
  unfold wyA
  rw [h, if_neg, if_pos (nI_lt (by omega) (by omega)), nI_clamp hz]
  intro q
  have h1 : (0 : Int32) ≤ nI (wlen (qp Q) (qg Q - 1)) := nI_pos' (by omega)
  rw [q] at h1
  exact absurd h1 (by decide)
theorem mrel_p {Q : QS} {n f h : Nat} {MP : Nat → Nat} {MO : Nat → Int64} {MF MB : Nat → Int32} {SL : Nat → Nat} (R : MREL Q n f h MP MO MF MB SL) : ∀ m, m < qk Q → m = 0 ∨ qp Q m < m := fun m hm => (R.2.2.1 m hm).2.2.2.2.1
theorem srO_ex : ∃ f : WT → WT → QS, ∀ u t, f u t = srF u t := ⟨srF, fun _ _ => rfl⟩
/-- the whole search, closed -/
noncomputable def srO : WT → WT → QS := Classical.choose srO_ex
theorem srO_e (u t : WT) : srO u t = srF u t := Classical.choose_spec srO_ex u t


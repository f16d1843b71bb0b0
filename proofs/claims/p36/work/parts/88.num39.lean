-- the reference's acts that can be undone
noncomputable def atR (F : FS) (S K : Nat) : Int32 × FS := attF (nI (if S = 7 then 3 else S)) (nI (if S = 7 then nbk (wn F.1) 3 K else K)) F
theorem atR_c {F : FS} {S K : Nat} (h7 : S ≠ 7) : atR F S K = attF (nI S) (nI K) F := by unfold atR; rw [if_neg h7, if_neg h7]
theorem atR_1 {F : FS} {S K : Nat} (h : (dsR F.1 S K).1 = 1) : (atR F S K).2.2.2.2 = if F.2.2.2 + 1 < 12 then F.2.2.2 + 1 else 12 := if_pos h
theorem atR_n {F : FS} {S K : Nat} (h : ¬ (dsR F.1 S K).1 = 1) : (atR F S K).2.2.2.2 = F.2.2.2 := if_neg h
theorem P8 {w : WT} {P : Nat → Nat} (hw : WOK w) (h : ∀ i, i < wn w → P i = wp w i) : ∀ i, i < wn w → P i < 8 := fun i hi => by
  have h1 := hw.2.1.2.1 i hi
  have h2 := hw.1.2
  rw [h i hi]; omega
theorem ring_p {x u : Nat} (hx : x < 13) (hu : u ≤ 12) (h : ¬ u = 0) : (x + 13 - u + (u - 1)) % 13 = pv 13 x := by
  unfold pv
  split <;> omega
theorem ring_q {x u j : Nat} (hx : x < 13) (hu : u ≤ 12) (hj : j < u - 1) : (pv 13 x + 13 - (u - 1) + j) % 13 = (x + 13 - u + j) % 13 := by
  unfold pv
  split <;> omega
/-- the latest act undone -/
def bkF (F : FS) : FS := (if F.2.2.2 = 0 then F.1 else F.2.1 (pv 13 F.2.2.1), F.2.1, if F.2.2.2 = 0 then F.2.2.1 else pv 13 F.2.2.1, if F.2.2.2 = 0 then 0 else F.2.2.2 - 1)
theorem bkF_w {F : FS} (hnx : F.2.2.1 < 13) (hun : F.2.2.2 ≤ 12) (h : ¬ F.2.2.2 = 0) : paF F (F.2.2.2 - 1) = (bkF F).1 := by
  have e : (bkF F).1 = F.2.1 (pv 13 F.2.2.1) := if_neg h
  rw [e]
  exact congrArg F.2.1 (ring_p hnx hun h)
theorem bkF_ok {F : FS} (h : FOK F) : FOK (bkF F) := by
  obtain ⟨hw, hP, hnx, hun⟩ := h
  have hp : pv 13 F.2.2.1 < 13 := by unfold pv; split <;> omega
  unfold bkF
  by_cases h0 : F.2.2.2 = 0
  · refine ⟨?_, hP, ?_, ?_⟩
    · show WOK (if _ then _ else _); rw [if_pos h0]; exact hw
    · show (if _ then _ else _) < 13; rw [if_pos h0]; exact hnx
    · show (if _ then _ else _) ≤ 12; rw [if_pos h0]; omega
  · refine ⟨?_, hP, ?_, ?_⟩
    · show WOK (if _ then _ else _); rw [if_neg h0]; exact hP _ hp
    · show (if _ then _ else _) < 13; rw [if_neg h0]; exact hp
    · show (if _ then _ else _) ≤ 12; rw [if_neg h0]; omega
theorem UR_b {F : FS} {OP OF OH : Nat → Nat} {OO : Nat → Int64} (hF : FOK F) (h : UR F OP OF OH OO) : wn (bkF F).1 = wn F.1 ∧ UR (bkF F) OP OF OH OO := by
  obtain ⟨hw, hP, hnx, hun⟩ := hF
  by_cases h0 : F.2.2.2 = 0
  · have e1 : (bkF F).1 = F.1 := if_pos h0
    have e4 : (bkF F).2.2.2 = 0 := if_pos h0
    exact ⟨by rw [e1], fun j hj => by rw [e4] at hj; omega⟩
  · have e4 : (bkF F).2.2.2 = F.2.2.2 - 1 := if_neg h0
    have e3 : (bkF F).2.2.1 = pv 13 F.2.2.1 := if_neg h0
    have e1 : wn (bkF F).1 = wn F.1 := by rw [← bkF_w hnx hun h0]; exact (h _ (by omega)).1
    refine ⟨e1, fun j hj => ?_⟩
    rw [e4] at hj
    have hpa : paF (bkF F) j = paF F j := by
      unfold paF
      rw [e3, e4]
      exact congrArg F.2.1 (ring_q hnx hun hj)
    rw [e1, hpa]
    exact h j (by omega)


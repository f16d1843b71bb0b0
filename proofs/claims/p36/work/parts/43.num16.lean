-- the class's own calls: numbers
abbrev isI (x : Int32) (n : Nat) : Prop := ¬ x < 0 ∧ x < nI n
theorem isI_nI {k n : Nat} (hk : k < 2 ^ 31) (hn : n < 2 ^ 31) : isI (nI k) n ↔ k < n := by
  constructor
  · intro q; exact (nI_ltI hk hn).mp q.2
  · intro q; exact ⟨fun z => ((z_lt hk).mp z).elim, (nI_ltI hk hn).mpr q⟩
theorem isI_nat {x : Int32} {n : Nat} (hn : n < 2 ^ 31) (h : isI x n) : ∃ k, k < n ∧ x = nI k := by
  obtain ⟨k, hk, rfl⟩ := nI_of h.1
  exact ⟨k, (isI_nI hk hn).mp h, rfl⟩
def plA (w : WT) (x what : Int32) : Int32 := if isI x (wn w) then (if what = 0 then nI (wd w x.toNatClampNeg) else if what = 1 then nI (wf w / 2 ^ wd w x.toNatClampNeg &&& 1) else -1) else -1
theorem plA_b {w : WT} {x what : Int32} (h : ¬ isI x (wn w)) : plA w x what = -1 := by unfold plA; rw [if_neg h]
theorem plA_0 {w : WT} {k : Nat} (hn : wn w ≤ 8) (h : k < wn w) : plA w (nI k) 0 = nI (wd w k) := by unfold plA; rw [if_pos ((isI_nI (by omega) (by omega)).mpr h), if_pos rfl, nI_clamp (by omega)]
theorem plA_1 {w : WT} {k : Nat} (hn : wn w ≤ 8) (h : k < wn w) : plA w (nI k) 1 = nI (wf w / 2 ^ wd w k &&& 1) := by unfold plA; rw [if_pos ((isI_nI (by omega) (by omega)).mpr h), if_neg (by decide), if_pos rfl, nI_clamp (by omega)]
theorem plA_d {w : WT} {k : Nat} {what : Int32} (hn : wn w ≤ 8) (h : k < wn w) (h0 : ¬ what = 0) (h1 : ¬ what = 1) : plA w (nI k) what = -1 := by unfold plA; rw [if_pos ((isI_nI (by omega) (by omega)).mpr h), if_neg h0, if_neg h1]


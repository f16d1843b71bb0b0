-- the search: laid anew
def sl0 (SL : Nat → Nat) : Nat → Nat := fun s => if s < 4096 then 0 else SL s
theorem sl0_0 {SL : Nat → Nat} : ∀ s, s < 4096 → sl0 SL s = 0 := fun _ hs => if_pos hs
theorem sl0_e (SL : Nat → Nat) : flC 4096 (nI 0) (fun x9 => nI (SL x9)) = fun x9 => nI (sl0 SL x9) := by
  funext j
  unfold flC sl0
  by_cases h : j < 4096
  · rw [if_pos h, if_pos h]
  · rw [if_neg h, if_neg h]
theorem ansF_y {Q : QS} (h : qg Q ≠ 0) : ansF Q = nI (wlen (qp Q) (qg Q - 1)) := by unfold ansF; rw [if_neg h]
theorem ansF_s {Q : QS} (h : qg Q = 0) (h2 : 1500 ≤ qk Q) : ansF Q = -6 := by unfold ansF; rw [if_pos h, if_pos h2]
theorem ansF_n {Q : QS} (h : qg Q = 0) (h2 : ¬ 1500 ≤ qk Q) : ansF Q = -4 := by unfold ansF; rw [if_pos h, if_neg h2]
theorem srel_g {SE OV KY : Nat → Int64} {PA AC : Nat → Int32} {SL : Nat → Nat} {go : Int32} {Q : QS} {n f h : Nat} (R : SRel SE OV KY PA AC SL go Q n f h) : go < 0 ↔ qg Q = 0 := by
  have h1 := R.2.2.2.1
  have h2 := R.2.2.2.2
  have h3 := R.1
  rw [h1]
  by_cases z : qg Q = 0
  · rw [if_pos z]; exact ⟨fun _ => z, fun _ => by decide⟩
  · rw [if_neg z]; exact ⟨fun q => absurd q (fun q => ((z_lt (by omega)).mp q).elim), fun q => absurd q z⟩
theorem srF_e {v x : WT} {m : Nat} (hm : m ≤ 1500) (h : m = 1500 ∨ ¬ (m < qk (srS x (kyW x) v m) ∧ gOn (srS x (kyW x) v m) = true)) : srF v x = srS x (kyW x) v m := by
  unfold srF
  rcases h with h | h
  · rw [h]
  · have := srS_stop h (1500 - m)
    rw [show m + (1500 - m) = 1500 by omega] at this
    exact this


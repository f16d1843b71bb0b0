-- how many bits
def bcF (n : Nat) : Nat → Nat
  | 0 => 0
  | k + 1 => bcF n k + (if n.testBit k = true then 1 else 0)
def bcN (n : Nat) : Nat := bcF n 8
theorem bcN_le (n : Nat) : bcN n ≤ 8 := by
  unfold bcN
  simp only [bcF]
  repeat' split
  all_goals omega


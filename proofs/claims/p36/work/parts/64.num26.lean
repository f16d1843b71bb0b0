-- how often a figure is done until all is as it was
abbrev asW (a w : WT) : Prop := (wn a = wn w ∧ (∀ p, p < wn a → wd a p = wd w p) ∧ wf a = wf w ∧ wh a = wh w ∧ wo a = wo w)
noncomputable def orA (B : Nat → Nat) (len : Nat) (w : WT) : Nat → FS → Nat → Int32
  | 0, _, _ => -4
  | f + 1, F, c => if (rn B len 0 F len).2.1 = 0 then (if asW (rn B len 0 F len).2.2.1 w then nI (c + 1) else orA B len w f (rn B len 0 F len).2.2 (c + 1)) else -2
theorem orA_r {B : Nat → Nat} {len : Nat} {w : WT} {F : FS} {c : Nat} (hc : c < 60) (h : ¬ (rn B len 0 F len).2.1 = 0) : orA B len w (60 - c) F c = -2 := by
  rw [show 60 - c = (60 - (c + 1)) + 1 by omega, orA, if_neg h]
theorem orA_y {B : Nat → Nat} {len : Nat} {w : WT} {F : FS} {c : Nat} (hc : c < 60) (h : (rn B len 0 F len).2.1 = 0) (h2 : asW (rn B len 0 F len).2.2.1 w) : orA B len w (60 - c) F c = nI (c + 1) := by
  rw [show 60 - c = (60 - (c + 1)) + 1 by omega, orA, if_pos h, if_pos h2]
theorem orA_n {B : Nat → Nat} {len : Nat} {w : WT} {F : FS} {c : Nat} (hc : c < 60) (h : (rn B len 0 F len).2.1 = 0) (h2 : ¬ asW (rn B len 0 F len).2.2.1 w) : orA B len w (60 - c) F c = orA B len w (60 - (c + 1)) (rn B len 0 F len).2.2 (c + 1) := by
  rw [show 60 - c = (60 - (c + 1)) + 1 by omega, orA, if_pos h, if_neg h2]
theorem orA_0 {B : Nat → Nat} {len : Nat} {w : WT} {F : FS} {c : Nat} (hc : c = 60) : orA B len w (60 - c) F c = -4 := by subst hc; rfl


-- the reference's passing, its state by rounds
def cS (n he a b b0 ov dr r k o : Nat) : Prop := (r = 0 ∧ o = ov ∧ ∀ j, j < k → ¬ cgP n he a b b0 ov j) ∨ (r = 1 ∧ o = mdF n he a b b0 ov k ∧ (∀ j, j < 4 → ¬ cgP n he a b b0 ov j) ∧ dr = 0)
def oS (n he a b b0 ov dr r o : Nat) : Prop := (r = 0 ∧ o = ov) ∨ (r = 1 ∧ o = ov ∧ (∀ j, j < 4 → ¬ cgP n he a b b0 ov j) ∧ dr = 0) ∨ (r = 2 ∧ o = mdF n he a b b0 ov 4 ∧ (∀ j, j < 4 → ¬ cgP n he a b b0 ov j) ∧ dr = 0)
theorem oS_in {n he a b b0 ov dr r o : Nat} (h : oS n he a b b0 ov dr r o) (hr : r < 2) : cS n he a b b0 ov dr r 0 o := by
  rcases h with ⟨q1, q2⟩ | ⟨q1, q2, q3, q4⟩ | ⟨q1, _⟩
  · exact Or.inl ⟨q1, q2, fun j hj => absurd hj (Nat.not_lt_zero _)⟩
  · exact Or.inr ⟨q1, q2, q3, q4⟩
  · omega
theorem oS_out {n he a b b0 ov dr r k o : Nat} (h : cS n he a b b0 ov dr r k o) (hk : k = 4) (hd : dr = 0) : oS n he a b b0 ov dr (r + 1) o := by
  subst hk
  rcases h with ⟨q1, q2, q3⟩ | ⟨q1, q2, q3, q4⟩
  · subst q1; exact Or.inr (Or.inl ⟨rfl, q2, q3, hd⟩)
  · subst q1; exact Or.inr (Or.inr ⟨rfl, q2, q3, hd⟩)
theorem cS_no {n he a b b0 ov dr r k o x y : Nat} (h : cS n he a b b0 ov dr r k o) (hx : x = pX n a k) (hy : y = pY n b k) (hc : ¬ can n he x y = true) : cS n he a b b0 ov dr r (k + 1) o := by
  subst hx hy
  rcases h with ⟨q1, q2, q3⟩ | ⟨q1, q2, q3, q4⟩
  · exact Or.inl ⟨q1, q2, lt_sn q3 (fun z => hc z.1)⟩
  · exact Or.inr ⟨q1, by rw [q2, mdF, mdS, if_neg hc], q3, q4⟩
theorem cS_0 {n he a b b0 ov dr r k o x y ag : Nat} (h : cS n he a b b0 ov dr r k o) (hr : r = 0) (hx : x = pX n a k) (hy : y = pY n b k) (hag : ag = pAg b0 x y) (hb : ¬ o.testBit ag = true) : cS n he a b b0 ov dr r (k + 1) o := by
  subst hx hy hag
  rcases h with ⟨q1, q2, q3⟩ | ⟨q1, _⟩
  · exact Or.inl ⟨q1, q2, lt_sn q3 (fun z => hb (by rw [q2]; exact z.2))⟩
  · omega
theorem cS_a {n he a b b0 ov dr r k o x y : Nat} (h : cS n he a b b0 ov dr r k o) (hr : ¬ r = 0) (hx : x = pX n a k) (hy : y = pY n b k) (hc : can n he x y = true) (hd : o.testBit (8 * x + y) = true ∨ o.testBit (8 * y + x) = true) : cS n he a b b0 ov dr r (k + 1) (an (an o (2 ^ (8 * x + y))) (2 ^ (8 * y + x))) := by
  subst hx hy
  rcases h with ⟨q1, _⟩ | ⟨q1, q2, q3, q4⟩
  · omega
  · exact Or.inr ⟨q1, by rw [mdF, mdS, if_pos hc, ← q2, if_pos hd], q3, q4⟩
theorem cS_b {n he a b b0 ov dr r k o x y u v : Nat} (h : cS n he a b b0 ov dr r k o) (hr : ¬ r = 0) (hx : x = pX n a k) (hy : y = pY n b k) (hc : can n he x y = true) (hd : ¬ (o.testBit (8 * x + y) = true ∨ o.testBit (8 * y + x) = true)) (hcr : 8 * u + v = pCr b0 x y) : cS n he a b b0 ov dr r (k + 1) (o ||| 2 ^ (8 * u + v)) := by
  rw [hcr]
  subst hx hy
  rcases h with ⟨q1, _⟩ | ⟨q1, q2, q3, q4⟩
  · omega
  · exact Or.inr ⟨q1, by rw [mdF, mdS, if_pos hc, ← q2, if_neg hd], q3, q4⟩
theorem mdS_lt {n h a b b0 j o : Nat} (h4 : 4 ≤ n) (h8 : n ≤ 8) (ha : a < n) (hb : b < n) (ho : o < 2 ^ 64) : mdS n h a b b0 j o < 2 ^ 64 := by
  unfold mdS
  split
  · split
    · exact an_le _ _ (an_le _ _ ho)
    · have hX := pX_lt (j := j) h4 ha
      have hY := pY_lt (j := j) h4 hb
      exact Nat.or_lt_two_pow ho (p64' (pcr_lt (by omega) (by omega)))
  · exact ho
theorem mdF_lt {n h a b b0 o : Nat} (h4 : 4 ≤ n) (h8 : n ≤ 8) (ha : a < n) (hb : b < n) (ho : o < 2 ^ 64) : ∀ j, mdF n h a b b0 o j < 2 ^ 64
  | 0 => ho
  | j + 1 => mdS_lt h4 h8 ha hb (mdF_lt h4 h8 ha hb ho j)
theorem cS_lt {n he a b b0 ov dr r k o : Nat} (h4 : 4 ≤ n) (h8 : n ≤ 8) (ha : a < n) (hb : b < n) (ho : ov < 2 ^ 64) (h : cS n he a b b0 ov dr r k o) : o < 2 ^ 64 := by
  rcases h with ⟨_, q2, _⟩ | ⟨_, q2, _⟩
  · rw [q2]; exact ho
  · rw [q2]; exact mdF_lt h4 h8 ha hb ho k
theorem pX_a {n a k : Nat} (h : k % 2 = 0) : a = pX n a k := by unfold pX; rw [if_pos (by rw [an1]; exact h)]
theorem pX_b {n a k : Nat} (h : ¬ k % 2 = 0) : pv n a = pX n a k := by unfold pX; rw [if_neg (by rw [an1]; exact h)]
theorem k2_ : ∀ k, k < 4 → (k &&& 2 = 0 ↔ k / 2 = 0) := by decide
theorem pY_a {n a k : Nat} (hk : k < 4) (h : k / 2 = 0) : a = pY n a k := by unfold pY; rw [if_pos ((k2_ k hk).mpr h)]
theorem pY_b {n a k : Nat} (hk : k < 4) (h : ¬ k / 2 = 0) : pv n a = pY n a k := by unfold pY; rw [if_neg (fun q => h ((k2_ k hk).mp q))]
theorem cr_e {u b0 x y : Nat} (hb : b0 = 1 - u) (hu : u < 2) : 8 * (if u = 0 then x else y) + (if u = 0 then y else x) = pCr b0 x y := by
  rcases (show u = 0 ∨ u = 1 by omega) with rfl | rfl <;> subst hb <;> rfl
theorem swp_e {n p : Nat} {da P : Nat → Nat} (h4 : 4 ≤ n) (hp : p < n) (hpm : Perm n da P) : va_up (va_up P (da p) (nx n p)) (da (nx n p)) p = swp P (da p) (da (nx n p)) := by
  unfold swp
  rw [hpm.2.2.2 _ (nx_lt h4 hp), hpm.2.2.2 p hp]
theorem nx_ab {n p : Nat} {da P : Nat → Nat} (h4 : 4 ≤ n) (hp : p < n) (hpm : Perm n da P) : da p ≠ da (nx n p) := fun e => nx_ne h4 hp ((hpm.2.2.2 p hp).symm.trans ((congrArg P e).trans (hpm.2.2.2 _ (nx_lt h4 hp))))


/-- the bits of h that m has not -/
def an (h m : Nat) : Nat := h ^^^ (h &&& m)
theorem an_tb (h m k : Nat) : (an h m).testBit k = (h.testBit k && !(m.testBit k)) := by
  unfold an
  rw [Nat.testBit_xor, Nat.testBit_and]
  cases h.testBit k <;> cases m.testBit k <;> rfl
theorem an_le (h m : Nat) {k : Nat} (hk : h < 2 ^ k) : an h m < 2 ^ k := by
  unfold an
  exact Nat.xor_lt_two_pow hk (Nat.lt_of_le_of_lt Nat.and_le_left hk)
theorem bt_nI (x i : Nat) (hi : i < 32) : bt (nI x) i = x.testBit i := by
  unfold bt
  show (BitVec.ofNat 32 x).getLsbD i = _
  rw [BitVec.getLsbD_ofNat]; simp [hi]
theorem nI_an (h m : Nat) : nI h &&& (nI m ^^^ (-1)) = nI (an h m) := by
  apply b_ext
  intro i hi
  rw [b_and, b_xor, b_m1 i hi, bt_nI _ _ hi, bt_nI _ _ hi, bt_nI _ _ hi, an_tb]
  cases m.testBit i <;> rfl
theorem lN_an (h m : Nat) : lN h &&& (lN m ^^^ (-1)) = lN (an h m) := by
  apply Int64.toBitVec_inj.mp
  rw [Int64.toBitVec_and, Int64.toBitVec_xor]
  apply BitVec.eq_of_getLsbD_eq
  intro i hi
  rw [BitVec.getLsbD_and, BitVec.getLsbD_xor]
  have e1 : ∀ x : Nat, (lN x).toBitVec.getLsbD i = x.testBit i := fun x => by
    rw [wb_tb, BitVec.getLsbD_ofNat]; simp [hi]
  have e2 : (-1 : Int64).toBitVec.getLsbD i = true := by
    have : (-1 : Int64).toBitVec = BitVec.allOnes 64 := by decide
    rw [this, BitVec.getLsbD_allOnes]; simp [hi]
  rw [e1, e1, e1, e2, an_tb]
  cases m.testBit i <;> rfl
/-- row and column i of the 8 x 8 bits -/
def rc (i : Nat) : Nat := 255 * 2 ^ (8 * i) ||| 72340172838076673 * 2 ^ i
theorem rc_tb : ∀ i, i < 8 → ∀ k, k < 64 → (rc i).testBit k = (decide (k / 8 = i) || decide (k % 8 = i)) := by decide +kernel
theorem rc_a : ∀ i, i < 8 → 255 * 2 ^ (8 * i) < 2 ^ 64 := by decide +kernel
theorem rc_b : ∀ i, i < 8 → 72340172838076673 * 2 ^ i < 2 ^ 64 := by decide +kernel
theorem sea_id : ∀ n, n ≤ 8 → 1985229328 &&& (2 ^ (4 * n) - 1) = sea (fun p => p) n := by decide +kernel
theorem sea_tb {f : Nat → Nat} {m : Nat} (h : ∀ p, p < m → f p < 16) (k : Nat) : (sea f m).testBit k = (decide (k / 4 < m) && (f (k / 4)).testBit (k % 4)) := by
  by_cases hp : k / 4 < m
  · have e := sea_nib h hp
    rw [← e, ← p16]
    have hr : k % 4 < 4 := Nat.mod_lt _ (by omega)
    have e2 : (16 : Nat) = 2 ^ 4 := by decide
    rw [e2, Nat.testBit_mod_two_pow, Nat.testBit_div_two_pow]
    simp only [hp, hr, decide_true, Bool.true_and]
    congr 1; omega
  · simp only [hp, decide_false, Bool.false_and]
    apply Nat.testBit_lt_two_pow
    refine Nat.lt_of_lt_of_le (sea_lt h) ?_
    rw [← p16]
    exact Nat.pow_le_pow_right (by omega) (by omega)
def swp (da : Nat → Nat) (p q : Nat) : Nat → Nat := va_up (va_up da p (da q)) q (da p)
theorem swp_lt {da : Nat → Nat} {n p q B : Nat} (h : ∀ r, r < n → da r < B) (hp : p < n) (hq : q < n) : ∀ r, r < n → swp da p q r < B := by
  intro r hr
  unfold swp va_up
  split
  · exact h p hp
  · split
    · exact h q hq
    · exact h r hr
theorem mul_tb {a : Nat} (ha : a < 16) (p k : Nat) : (a * 2 ^ (4 * p)).testBit k = (decide (k / 4 = p) && a.testBit (k % 4)) := by
  rw [Nat.testBit_mul_two_pow]
  by_cases h : k / 4 = p
  · have h1 : 4 * p ≤ k := by omega
    have h2 : k - 4 * p = k % 4 := by omega
    simp [h, h1, h2]
  · simp only [h, decide_false, Bool.false_and]
    by_cases h1 : 4 * p ≤ k
    · have h3 : 4 ≤ k - 4 * p := by omega
      rw [Nat.testBit_lt_two_pow (x := a) (i := k - 4 * p) (Nat.lt_of_lt_of_le ha (Nat.pow_le_pow_right (n := 2) (i := 4) (by omega) h3))]
      simp
    · simp [h1]
theorem sea_swap {da : Nat → Nat} {n p q : Nat} (h : ∀ r, r < n → da r < 16) (hp : p < n) (hq : q < n) (hpq : p ≠ q) : sea da n ^^^ ((da p ^^^ da q) * 2 ^ (4 * p) ||| (da p ^^^ da q) * 2 ^ (4 * q)) = sea (swp da p q) n := by
  have hx : da p ^^^ da q < 16 := Nat.xor_lt_two_pow (n := 4) (h p hp) (h q hq)
  apply Nat.eq_of_testBit_eq
  intro k
  rw [Nat.testBit_xor, Nat.testBit_or, mul_tb hx, mul_tb hx, sea_tb h, sea_tb (swp_lt h hp hq), Nat.testBit_xor]
  generalize k % 4 = r
  unfold swp va_up
  by_cases e1 : k / 4 = p
  · rw [e1]
    simp only [hp, hpq, decide_true, decide_false, if_true, if_false, Bool.true_and, Bool.false_and, Bool.or_false]
    cases (da p).testBit r <;> cases (da q).testBit r <;> rfl
  · by_cases e2 : k / 4 = q
    · rw [e2]
      have e3 : ¬ q = p := fun z => hpq z.symm
      simp only [hq, e3, decide_true, decide_false, if_true, if_false, Bool.true_and, Bool.false_and, Bool.false_or]
      cases (da p).testBit r <;> cases (da q).testBit r <;> rfl
    · simp only [e1, e2, decide_false, if_false, Bool.false_and, Bool.or_false, Bool.xor_false]
/-- one pair of blades at a passing: none: caught -/
def pX (n a j : Nat) : Nat := if j &&& 1 = 0 then a else pv n a
def pY (n b j : Nat) : Nat := if j &&& 2 = 0 then b else pv n b
def pAg (b0 x y : Nat) : Nat := if b0 = 0 then 8 * x + y else 8 * y + x
def pCr (b0 x y : Nat) : Nat := if b0 = 0 then 8 * y + x else 8 * x + y
def passS (n h a b b0 j o : Nat) : Option Nat := if can n h (pX n a j) (pY n b j) = true then (if o.testBit (pAg b0 (pX n a j) (pY n b j)) = true then none else some (o ^^^ 2 ^ pCr b0 (pX n a j) (pY n b j))) else some o
def passF (n h a b b0 o : Nat) : Nat → Option Nat
  | 0 => some o
  | j + 1 => (passF n h a b b0 o j).bind (passS n h a b b0 j)
theorem passF_no {n h a b b0 o j o1 x y : Nat} (h1 : passF n h a b b0 o j = some o1) (hx : x = pX n a j) (hy : y = pY n b j) (hc : ¬ can n h x y = true) : passF n h a b b0 o (j + 1) = some o1 := by
  subst hx hy
  rw [passF, h1]; show passS n h a b b0 j o1 = _
  rw [passS, if_neg hc]
theorem passF_go {n h a b b0 o j o1 x y ag cr : Nat} (h1 : passF n h a b b0 o j = some o1) (hx : x = pX n a j) (hy : y = pY n b j) (hc : can n h x y = true) (hag : ag = pAg b0 x y) (ht : o1 &&& 2 ^ ag = 0) (hcr : cr = pCr b0 x y) : passF n h a b b0 o (j + 1) = some (o1 ^^^ 2 ^ cr) := by
  subst hx hy hag hcr
  rw [passF, h1]; show passS n h a b b0 j o1 = _
  rw [passS, if_pos hc, if_neg (by rw [and_pow.mp ht]; decide)]
theorem passF_ca {n h a b b0 o j o1 x y ag : Nat} (hj : j < 4) (h1 : passF n h a b b0 o j = some o1) (hx : x = pX n a j) (hy : y = pY n b j) (hc : can n h x y = true) (hag : ag = pAg b0 x y) (ht : ¬ o1 &&& 2 ^ ag = 0) : passF n h a b b0 o 4 = none := by
  subst hx hy hag
  have e : passF n h a b b0 o (j + 1) = none := by
    rw [passF, h1]; show passS n h a b b0 j o1 = _
    rw [passS, if_pos hc, if_pos (by cases q : o1.testBit (pAg b0 (pX n a j) (pY n b j)) with | true => rfl | false => exact absurd (and_pow.mpr q) ht)]
  have up : ∀ i, passF n h a b b0 o i = none → passF n h a b b0 o (i + 1) = none := fun i q => by rw [passF, q]; rfl
  rcases (show j = 0 ∨ j = 1 ∨ j = 2 ∨ j = 3 by omega) with rfl | rfl | rfl | rfl
  · exact up _ (up _ (up _ e))
  · exact up _ (up _ e)
  · exact up _ e
  · exact e
def pR (x : Option Nat) : Int32 := match x with
  | none => -5
  | some _ => 1
theorem pX_lt {n a j : Nat} (h0 : 4 ≤ n) (ha : a < n) : pX n a j < n := by unfold pX pv; split <;> (try split) <;> omega
theorem pY_lt {n a j : Nat} (h0 : 4 ≤ n) (ha : a < n) : pY n a j < n := by unfold pY pv; split <;> (try split) <;> omega
theorem nx_lt {n i : Nat} (h0 : 4 ≤ n) (hi : i < n) : nx n i < n := by unfold nx; split <;> omega
theorem nx_ne {n i : Nat} (h0 : 4 ≤ n) (hi : i < n) : i ≠ nx n i := by unfold nx; split <;> omega
theorem pv_lt {n i : Nat} (h0 : 4 ≤ n) (hi : i < n) : pv n i < n := by unfold pv; split <;> omega
theorem su_lt {n p q : Nat} (hp : p < n) (hq : q < n) : su n p q < n := by unfold su; split <;> omega
theorem pcr_lt {b0 x y : Nat} (hx : x < 8) (hy : y < 8) : pCr b0 x y < 64 := by unfold pCr; split <;> omega
theorem pag_lt {b0 x y : Nat} (hx : x < 8) (hy : y < 8) : pAg b0 x y < 64 := by unfold pAg; split <;> omega
theorem p64' {k : Nat} (h : k < 64) : 2 ^ k < 2 ^ 64 := Nat.pow_lt_pow_right (by omega) h
theorem sw_b {a p : Nat} (ha : a < 16) (hp : p < 8) : a * 2 ^ (4 * p) < 2 ^ 64 := by
  have h2 : 2 ^ (4 * p) ≤ 2 ^ 28 := Nat.pow_le_pow_right (by omega) (by omega)
  have h3 : a * 2 ^ (4 * p) ≤ 15 * 2 ^ 28 := Nat.mul_le_mul (by omega) h2
  omega
theorem rot_lt {n d : Nat} {da : Nat → Nat} (h0 : 0 < n) (h : ∀ p, p < n → da p < n) : ∀ p, p < n → rot n d da p < n := fun p _ => h _ (Nat.mod_lt _ h0)
theorem asT {A B C E : Prop} [Decidable (A ∧ B ∧ C ∧ E)] (a : A) (b : B) (c : C) (d : E) : nI 1 = (if (A ∧ B ∧ C ∧ E) then (1 : Int32) else 0) := ifT ⟨a, b, c, d⟩
/-- the blades over one -/
def tab (n o i : Nat) : Nat := mk (fun j => o.testBit (8 * j + i)) n
theorem tab_lt {n o i : Nat} (hn : n ≤ 8) : tab n o i < 256 := mk_lt8 hn


-- the reference: numbers
theorem sbn {a b c : Nat} (h : b ≤ a + c) : nI a - nI b + nI c = nI (a + c - b) := by
  rw [← pk_sub h, ← nI_add, Int32.sub_eq_add_neg, Int32.sub_eq_add_neg, Int32.add_assoc, Int32.add_assoc, Int32.add_comm (-nI b) (nI c)]
theorem le64 (x y : Int32) : x.toInt64 ≤ y.toInt64 ↔ x ≤ y := by
  rw [Int64.le_iff_toInt_le, Int32.toInt_toInt64, Int32.toInt_toInt64, Int32.le_iff_toInt_le]
theorem le64a {x : Int32} {k : Nat} (hk : k < 2 ^ 31) : x.toInt64 ≤ lN k ↔ x ≤ nI k := by rw [← nI_l hk, le64]
theorem le64b {x : Int32} {k : Nat} (hk : k < 2 ^ 31) : lN k ≤ x.toInt64 ↔ nI k ≤ x := by rw [← nI_l hk, le64]
theorem in_0 {x : Int32} {n : Nat} (h1 : 1 ≤ n) (h : n < 2 ^ 31) : (lN 0 ≤ x.toInt64 ∧ x.toInt64 ≤ lN (n - 1)) ↔ isI x n := by
  rw [le64a (by omega), le64b (by omega)]
  constructor
  · rintro ⟨a, b⟩
    obtain ⟨k, hk, rfl⟩ := nI_of (Int32.not_lt.mpr a)
    refine (isI_nI hk h).mpr ?_
    have := (nI_leI hk (by omega)).mp b
    omega
  · intro q
    obtain ⟨k, hk, rfl⟩ := isI_nat h q
    exact ⟨nI_le (by omega) (by omega), nI_le (by omega) (by omega)⟩
theorem in_00 {x : Int32} {n : Nat} (h : n < 2 ^ 31) : (lN 0 ≤ x.toInt64 ∧ x.toInt64 ≤ (nI n - nI 1).toInt64) ↔ isI x n := by
  by_cases h0 : n = 0
  · subst h0
    rw [le64, le64b (by omega)]
    constructor
    · rintro ⟨a, b⟩
      have h2 : nI 0 ≤ nI 0 - nI 1 := Int32.le_trans a b
      exact absurd h2 (by decide)
    · rintro ⟨a, b⟩
      exact absurd b a
  · rw [pk_sub (by omega), nI_l (by omega)]
    exact in_0 (by omega) h
theorem in_45 {x : Int32} {a b : Nat} (ha : a < 2 ^ 31) (hb : b < 2 ^ 31) : (lN a ≤ x.toInt64 ∧ x.toInt64 ≤ lN b) ↔ (¬ x < nI a ∧ ¬ nI b < x) := by
  rw [le64a hb, le64b ha, Int32.not_lt, Int32.not_lt]
theorem in_nn {a b k : Nat} (hk : k < 2 ^ 31) (ha : a < 2 ^ 31) (hb : b < 2 ^ 31) : (lN a ≤ lN k ∧ lN k ≤ lN b) ↔ (a ≤ k ∧ k ≤ b) := by
  rw [← nI_l ha, ← nI_l hb, ← nI_l hk, le64, le64, nI_leI ha hk, nI_leI hk hb]
theorem sm64 : ∀ k, k < 64 → ((nI k).toInt64 &&& 63).toBitVec.smod 64 = BitVec.ofNat 64 k := by decide +kernel
theorem sarT {o k i : Nat} (hk : k < 64) (hi : k + i < 64) : (lN o >>> ((nI k).toInt64 &&& 63)).toBitVec.getLsbD i = o.testBit (k + i) := by
  rw [Int64.toBitVec_shiftRight, sm64 k hk, BitVec.sshiftRight_eq', BitVec.getLsbD_sshiftRight, wb_tb]
  have e : (BitVec.ofNat 64 k).toNat = k := by
    rw [BitVec.toNat_ofNat]; exact Nat.mod_eq_of_lt (by omega)
  rw [e, if_pos hi, BitVec.getLsbD_ofNat]
  have h1 : ¬ 64 ≤ i := by omega
  simp [hi, h1]
theorem sar1 {o k : Nat} (hk : k < 64) : (lN o >>> ((nI k).toInt64 &&& 63)) &&& lN 1 = lN (o / 2 ^ k % 2) := by
  apply Int64.toBitVec_inj.mp
  apply BitVec.eq_of_getLsbD_eq
  intro i hi
  rw [Int64.toBitVec_and, BitVec.getLsbD_and]
  by_cases h0 : i = 0
  · subst h0
    rw [sarT hk (by omega), wb_tb, wb_tb, BitVec.getLsbD_ofNat, BitVec.getLsbD_ofNat, Nat.testBit_zero, Nat.testBit_zero, Nat.testBit_eq_decide_div_mod_eq]
    simp
  · have e1 : (lN 1).toBitVec.getLsbD i = false := by
      rw [wb_tb, BitVec.getLsbD_ofNat, show (1 : Nat) = 2 ^ 0 from rfl, Nat.testBit_two_pow]
      simp; omega
    have e2 : (lN (o / 2 ^ k % 2)).toBitVec.getLsbD i = false := by
      rw [wb_tb, BitVec.getLsbD_ofNat, show (2 : Nat) = 2 ^ 1 from rfl, Nat.testBit_mod_two_pow]
      simp; omega
    rw [e1, e2, Bool.and_false]
theorem sar8 {v k : Nat} (hk : k ≤ 56) : (lN v >>> ((nI k).toInt64 &&& 63)).toInt32 &&& nI 255 = nI (v / 2 ^ k % 256) := by
  apply Int32.toBitVec_inj.mp
  apply BitVec.eq_of_getLsbD_eq
  intro i hi
  rw [Int32.toBitVec_and, BitVec.getLsbD_and]
  have e0 : (nI 255).toBitVec.getLsbD i = decide (i < 8) := by
    revert i; decide +kernel
  have e2 : (nI (v / 2 ^ k % 256)).toBitVec.getLsbD i = (decide (i < 8) && v.testBit (k + i)) := by
    show (BitVec.ofNat 32 _).getLsbD i = _
    rw [BitVec.getLsbD_ofNat, show (256 : Nat) = 2 ^ 8 from rfl, Nat.testBit_mod_two_pow, Nat.testBit_div_two_pow, Nat.add_comm i k]
    simp [hi]
  rw [e0, e2]
  by_cases h8 : i < 8
  · have e1 : ((lN v >>> ((nI k).toInt64 &&& 63)).toInt32).toBitVec.getLsbD i = (lN v >>> ((nI k).toInt64 &&& 63)).toBitVec.getLsbD i := by
      show (BitVec.signExtend 32 _).getLsbD i = _
      rw [BitVec.getLsbD_signExtend]
      have h1 : i < 64 := by omega
      simp [hi, h1]
    rw [e1, sarT (by omega) (by omega)]
    simp [h8]
  · simp [h8]
-- the weaving by places
theorem pvm {n a : Nat} (h : 0 < n) (ha : a < n) : (a + n - 1) % n = pv n a := by
  unfold pv
  split
  · rw [show a + n - 1 = a - 1 + n by omega, Nat.add_mod_right, Nat.mod_eq_of_lt (by omega)]
  · rw [show a + n - 1 = n - 1 by omega, Nat.mod_eq_of_lt (by omega)]
theorem nxm {n p : Nat} (hp : p < n) : (p + 1) % n = nx n p := by
  unfold nx
  split
  · exact Nat.mod_eq_of_lt (by omega)
  · rw [show p + 1 = n by omega, Nat.mod_self]
theorem sum_ {n p q : Nat} (hp : p < n) (hq : q < n) : (q + n - p) % n = su n p q := by
  unfold su
  split
  · rw [show q + n - p = q - p + n by omega, Nat.add_mod_right, Nat.mod_eq_of_lt (by omega)]
  · exact Nat.mod_eq_of_lt (by omega)
theorem jn_iff {n x y : Nat} (h4 : 4 ≤ n) (hx : x < n) (hy : y < n) : (su n x y = 0 ∨ su n x y = 1 ∨ su n x y = n - 1) ↔ (x = y ∨ nx n x = y ∨ nx n y = x) := by
  rw [nx_eq h4 hx hy, nx_eq h4 hy hx]
  unfold su
  split <;> omega
theorem can_jn {n h x y : Nat} (hx : h.testBit x = true) (hy : h.testBit y = true) (hj : ¬ (x = y ∨ nx n x = y ∨ nx n y = x)) : can n h x y = true := by
  rw [can_iff]
  exact ⟨fun q => hj (Or.inl q), fun q => hj (Or.inr (Or.inl q)), fun q => hj (Or.inr (Or.inr q)), hx, hy⟩
theorem ncan_x {n h x y : Nat} (hx : ¬ h.testBit x = true) : ¬ can n h x y = true := fun q => hx (can_iff.mp q).2.2.2.1
theorem ncan_y {n h x y : Nat} (hx : ¬ h.testBit y = true) : ¬ can n h x y = true := fun q => hx (can_iff.mp q).2.2.2.2
theorem ncan_j {n h x y : Nat} (hj : (x = y ∨ nx n x = y ∨ nx n y = x)) : ¬ can n h x y = true := fun q => by
  have q2 := can_iff.mp q
  rcases hj with e | e | e
  · exact q2.1 e
  · exact q2.2.1 e
  · exact q2.2.2.1 e
/-- the places in one number -/
def pk (P : Nat → Nat) : Nat → Nat
  | 0 => 0
  | i + 1 => pk P i ||| P i * 2 ^ (3 * i)
theorem pk_tb (P : Nat → Nat) (h : ∀ i, P i < 8) : ∀ n k, (pk P n).testBit k = (decide (k / 3 < n) && (P (k / 3)).testBit (k % 3))
  | 0, k => by simp [pk]
  | n + 1, k => by
    rw [pk, Nat.testBit_or, pk_tb P h n k, Nat.testBit_mul_two_pow]
    rcases Nat.lt_trichotomy (k / 3) n with q | q | q
    · have h1 : ¬ 3 * n ≤ k := by omega
      have h2 : k / 3 < n + 1 := by omega
      simp [q, h1, h2]
    · subst q
      have h1 : 3 * (k / 3) ≤ k := by omega
      have h2 : k - 3 * (k / 3) = k % 3 := by omega
      simp [h1, h2]
    · have h1 : 3 * n ≤ k := by omega
      have h2 : ¬ k / 3 < n := by omega
      have h3 : ¬ k / 3 < n + 1 := by omega
      have h4 : (P n).testBit (k - 3 * n) = false := Nat.testBit_lt_two_pow (Nat.lt_of_lt_of_le (h n) (Nat.pow_le_pow_right (n := 2) (i := 3) (by omega) (by omega)))
      simp [h2, h3, h4]
theorem pk_congr {P Q : Nat → Nat} : ∀ {n : Nat}, (∀ i, i < n → P i = Q i) → pk P n = pk Q n
  | 0, _ => rfl
  | n + 1, h => by rw [pk, pk, pk_congr (fun i hi => h i (by omega)), h n (by omega)]
/-- only the first n count -/
def cut8 (P : Nat → Nat) (n : Nat) : Nat → Nat := fun i => if i < n then P i else 0
theorem pk_cut (P : Nat → Nat) (n : Nat) : pk P n = pk (cut8 P n) n := pk_congr (fun i hi => (if_pos hi).symm)
theorem pkP_lt {P : Nat → Nat} {n : Nat} (h : ∀ i, i < n → P i < 8) : pk P n < 2 ^ (3 * n) := by
  rw [pk_cut]
  apply Nat.lt_pow_two_of_testBit
  intro k hk
  rw [pk_tb _ (fun i => by unfold cut8; split; exact h i (by assumption); omega)]
  have : ¬ k / 3 < n := by omega
  simp [this]
theorem pk_nib {P : Nat → Nat} {n i : Nat} (h : ∀ i, i < n → P i < 8) (hi : i < n) : pk P n / 2 ^ (3 * i) &&& 7 = P i := by
  rw [pk_cut]
  apply Nat.eq_of_testBit_eq
  intro k
  rw [Nat.testBit_and, Nat.testBit_div_two_pow, pk_tb _ (fun i => by unfold cut8; split; exact h i (by assumption); omega)]
  have e7 : (7 : Nat) = 2 ^ 3 - 1 := by decide
  rw [e7, Nat.testBit_two_pow_sub_one]
  by_cases hk : k < 3
  · have h1 : (k + 3 * i) / 3 = i := by omega
    have h2 : (k + 3 * i) % 3 = k := by omega
    rw [h1, h2]
    have h3 : cut8 P n i = P i := if_pos hi
    simp [hk, hi, h3]
  · have h4 : (P i).testBit k = false := Nat.testBit_lt_two_pow (Nat.lt_of_lt_of_le (h i hi) (Nat.pow_le_pow_right (n := 2) (i := 3) (by omega) (by omega)))
    simp [hk, h4]
theorem pk_inj {P Q : Nat → Nat} {n : Nat} (h : ∀ i, i < n → P i < 8) (h2 : ∀ i, i < n → Q i < 8) (e : pk P n = pk Q n) : ∀ i, i < n → P i = Q i := fun i hi => by
  rw [← pk_nib h hi, ← pk_nib h2 hi, e]
theorem pk_24 {P : Nat → Nat} {n : Nat} (hn : n ≤ 8) (h : ∀ i, i < n → P i < 8) : pk P n < 2 ^ 24 := Nat.lt_of_lt_of_le (pkP_lt h) (Nat.pow_le_pow_right (by omega) (by omega))
/-- the places out of one number -/
def upk (v : Nat) (P : Nat → Nat) (n : Nat) : Nat → Nat := fun i => if i < n then v / 2 ^ (3 * i) &&& 7 else P i
theorem upk_0 (v : Nat) (P : Nat → Nat) : upk v P 0 = P := funext fun i => if_neg (Nat.not_lt_zero i)
theorem upk_s (v : Nat) (P : Nat → Nat) (i : Nat) : va_up (upk v P i) i (v / 2 ^ (3 * i) &&& 7) = upk v P (i + 1) := by
  funext j
  unfold va_up upk
  by_cases e : j = i
  · subst e
    rw [if_pos rfl, if_pos (by omega)]
  · rw [if_neg e]
    by_cases h : j < i
    · rw [if_pos h, if_pos (by omega)]
    · rw [if_neg h, if_neg (by omega)]
theorem upk_at {v : Nat} {P : Nat → Nat} {n i : Nat} (hi : i < n) : upk v P n i = v / 2 ^ (3 * i) &&& 7 := if_pos hi
theorem upk_pk {P Q : Nat → Nat} {n : Nat} (h : ∀ i, i < n → P i < 8) : ∀ i, i < n → upk (pk P n) Q n i = P i := fun i hi => by rw [upk_at hi, pk_nib h hi]
/-- a round of the places -/
def gor (d m n : Nat) (P : Nat → Nat) : Nat → Nat := fun i => if i < m then (P i + d) % n else P i
theorem gor_0 (d n : Nat) (P : Nat → Nat) : gor d 0 n P = P := funext fun i => if_neg (Nat.not_lt_zero i)
theorem gor_s (d n : Nat) (P : Nat → Nat) (i : Nat) : va_up (gor d i n P) i ((P i + d) % n) = gor d (i + 1) n P := by
  funext j
  unfold va_up gor
  by_cases e : j = i
  · subst e
    rw [if_pos rfl, if_pos (by omega)]
  · rw [if_neg e]
    by_cases h : j < i
    · rw [if_pos h, if_pos (by omega)]
    · rw [if_neg h, if_neg (by omega)]
/-- the reference's passing: caught at the pair j; one pair's crossing -/
def cgP (n h a b b0 o j : Nat) : Prop := can n h (pX n a j) (pY n b j) = true ∧ o.testBit (pAg b0 (pX n a j) (pY n b j)) = true
def mdS (n h a b b0 j o : Nat) : Nat := if can n h (pX n a j) (pY n b j) = true then (if o.testBit (8 * pX n a j + pY n b j) = true ∨ o.testBit (8 * pY n b j + pX n a j) = true then an (an o (2 ^ (8 * pX n a j + pY n b j))) (2 ^ (8 * pY n b j + pX n a j)) else o ||| 2 ^ pCr b0 (pX n a j) (pY n b j)) else o
def mdF (n h a b b0 o : Nat) : Nat → Nat
  | 0 => o
  | j + 1 => mdS n h a b b0 j (mdF n h a b b0 o j)
def pagT (n a b i j b0 : Nat) : Bool := !(decide (4 ≤ n) && decide (a < n) && decide (b < n) && !decide (a = b) && !decide (i = j)) || (!decide (pAg b0 (pX n a i) (pY n b i) = pAg b0 (pX n a j) (pY n b j)) && !decide (pAg b0 (pX n a i) (pY n b i) = pCr b0 (pX n a j) (pY n b j)))
theorem pag_all : ∀ n, n < 9 → ∀ a, a < 8 → ∀ b, b < 8 → ∀ i, i < 4 → ∀ j, j < 4 → ∀ b0, b0 < 2 → pagT n a b i j b0 = true := by decide +kernel
theorem pag_ne : ∀ n, n < 9 → 4 ≤ n → ∀ a, a < n → ∀ b, b < n → a ≠ b → ∀ i, i < 4 → ∀ j, j < 4 → i ≠ j → ∀ b0, b0 < 2 → pAg b0 (pX n a i) (pY n b i) ≠ pAg b0 (pX n a j) (pY n b j) ∧ pAg b0 (pX n a i) (pY n b i) ≠ pCr b0 (pX n a j) (pY n b j) := by
  intro n hn h4 a ha b hb hab i hi j hj hij b0 hb0
  have h := pag_all n hn a (by omega) b (by omega) i hi j hj b0 hb0
  unfold pagT at h
  rw [decide_eq_true h4, decide_eq_true ha, decide_eq_true hb, decide_eq_false hab, decide_eq_false hij] at h
  simp at h
  exact h
theorem mdS_x {n h a b b0 j o : Nat} (hb0 : b0 < 2) (hxy : pX n a j ≠ pY n b j) (hX : pX n a j < 8) (hY : pY n b j < 8) (hc : can n h (pX n a j) (pY n b j) = true) (hag : o.testBit (pAg b0 (pX n a j) (pY n b j)) = false) : mdS n h a b b0 j o = o ^^^ 2 ^ pCr b0 (pX n a j) (pY n b j) := by
  unfold mdS
  rw [if_pos hc]
  generalize hx : pX n a j = x at *
  generalize hy : pY n b j = y at *
  have hne : 8 * x + y ≠ 8 * y + x := by omega
  rcases (show b0 = 0 ∨ b0 = 1 by omega) with rfl | rfl
  · have e1 : pAg 0 x y = 8 * x + y := rfl
    have e2 : pCr 0 x y = 8 * y + x := rfl
    rw [e1] at hag
    rw [e2]
    by_cases q : o.testBit (8 * y + x) = true
    · rw [if_pos (Or.inr q)]
      apply Nat.eq_of_testBit_eq
      intro k
      rw [an_tb, an_tb, Nat.testBit_xor, Nat.testBit_two_pow, Nat.testBit_two_pow]
      by_cases k1 : 8 * x + y = k
      · have k2 : ¬ 8 * y + x = k := by omega
        subst k1
        simp [hag, k2]
      · by_cases k2 : 8 * y + x = k
        · subst k2
          simp [q, k1]
        · simp [k1, k2]
    · rw [if_neg (by rw [hag]; simp [q])]
      apply Nat.eq_of_testBit_eq
      intro k
      rw [Nat.testBit_or, Nat.testBit_xor, Nat.testBit_two_pow]
      by_cases k2 : 8 * y + x = k
      · subst k2
        have q2 : o.testBit (8 * y + x) = false := by revert q; cases o.testBit (8 * y + x) <;> simp
        simp [q2]
      · simp [k2]
  · have e1 : pAg 1 x y = 8 * y + x := rfl
    have e2 : pCr 1 x y = 8 * x + y := rfl
    rw [e1] at hag
    rw [e2]
    by_cases q : o.testBit (8 * x + y) = true
    · rw [if_pos (Or.inl q)]
      apply Nat.eq_of_testBit_eq
      intro k
      rw [an_tb, an_tb, Nat.testBit_xor, Nat.testBit_two_pow, Nat.testBit_two_pow]
      by_cases k1 : 8 * x + y = k
      · have k2 : ¬ 8 * y + x = k := by omega
        subst k1
        simp [q, k2]
      · by_cases k2 : 8 * y + x = k
        · subst k2
          simp [hag, k1]
        · simp [k1, k2]
    · rw [if_neg (by rw [hag]; simp [q])]
      apply Nat.eq_of_testBit_eq
      intro k
      rw [Nat.testBit_or, Nat.testBit_xor, Nat.testBit_two_pow]
      by_cases k2 : 8 * x + y = k
      · subst k2
        have q2 : o.testBit (8 * x + y) = false := by revert q; cases o.testBit (8 * x + y) <;> simp
        simp [q2]
      · simp [k2]
theorem md_pass {n h a b b0 o : Nat} (h4 : 4 ≤ n) (h8 : n ≤ 8) (ha : a < n) (hb : b < n) (hab : a ≠ b) (hb0 : b0 < 2) (hno : ∀ j, j < 4 → ¬ cgP n h a b b0 o j) : ∀ j, j ≤ 4 → passF n h a b b0 o j = some (mdF n h a b b0 o j) ∧ ∀ i, j ≤ i → i < 4 → (mdF n h a b b0 o j).testBit (pAg b0 (pX n a i) (pY n b i)) = o.testBit (pAg b0 (pX n a i) (pY n b i))
  | 0, _ => ⟨rfl, fun _ _ _ => rfl⟩
  | j + 1, hj => by
    obtain ⟨h1, h2⟩ := md_pass h4 h8 ha hb hab hb0 hno j (by omega)
    have hX := pX_lt (j := j) h4 ha
    have hY := pY_lt (j := j) h4 hb
    by_cases hc : can n h (pX n a j) (pY n b j) = true
    · have hag0 : o.testBit (pAg b0 (pX n a j) (pY n b j)) = false := by
        cases q : o.testBit (pAg b0 (pX n a j) (pY n b j)) with
        | true => exact absurd ⟨hc, q⟩ (hno j (by omega))
        | false => rfl
      have hag : (mdF n h a b b0 o j).testBit (pAg b0 (pX n a j) (pY n b j)) = false := by rw [h2 j (Nat.le_refl _) (by omega)]; exact hag0
      have e : mdF n h a b b0 o (j + 1) = mdF n h a b b0 o j ^^^ 2 ^ pCr b0 (pX n a j) (pY n b j) := mdS_x hb0 (can_iff.mp hc).1 (by omega) (by omega) hc hag
      refine ⟨?_, fun i hi hi4 => ?_⟩
      · rw [e]
        exact passF_go h1 rfl rfl hc rfl (and_pow.mpr hag) rfl
      · have hne := (pag_ne n (by omega) h4 a ha b hb hab i hi4 j (by omega) (by omega) b0 hb0).2
        rw [e, Nat.testBit_xor, Nat.testBit_two_pow, h2 i (by omega) hi4]
        rw [decide_eq_false (fun q => hne q.symm), Bool.xor_false]
    · have e : mdF n h a b b0 o (j + 1) = mdF n h a b b0 o j := if_neg hc
      refine ⟨?_, fun i hi hi4 => ?_⟩
      · rw [e]
        exact passF_no h1 rfl rfl hc
      · rw [e]; exact h2 i (by omega) hi4
theorem cg_none {n h a b b0 o j : Nat} (h4 : 4 ≤ n) (h8 : n ≤ 8) (ha : a < n) (hb : b < n) (hab : a ≠ b) (hb0 : b0 < 2) (hj : j < 4) (hno : ∀ i, i < j → ¬ cgP n h a b b0 o i) (hc : cgP n h a b b0 o j) : passF n h a b b0 o 4 = none := by
  have key : ∀ k, k ≤ j → passF n h a b b0 o k = some (mdF n h a b b0 o k) ∧ ∀ i, k ≤ i → i < 4 → (mdF n h a b b0 o k).testBit (pAg b0 (pX n a i) (pY n b i)) = o.testBit (pAg b0 (pX n a i) (pY n b i)) := by
    intro k
    induction k with
    | zero => intro _; exact ⟨rfl, fun _ _ _ => rfl⟩
    | succ k ih =>
      intro hk
      obtain ⟨h1, h2⟩ := ih (by omega)
      have hX := pX_lt (j := k) h4 ha
      have hY := pY_lt (j := k) h4 hb
      by_cases hcn : can n h (pX n a k) (pY n b k) = true
      · have hag0 : o.testBit (pAg b0 (pX n a k) (pY n b k)) = false := by
          cases q : o.testBit (pAg b0 (pX n a k) (pY n b k)) with
          | true => exact absurd ⟨hcn, q⟩ (hno k (by omega))
          | false => rfl
        have hag : (mdF n h a b b0 o k).testBit (pAg b0 (pX n a k) (pY n b k)) = false := by rw [h2 k (Nat.le_refl _) (by omega)]; exact hag0
        have e : mdF n h a b b0 o (k + 1) = mdF n h a b b0 o k ^^^ 2 ^ pCr b0 (pX n a k) (pY n b k) := mdS_x hb0 (can_iff.mp hcn).1 (by omega) (by omega) hcn hag
        refine ⟨?_, fun i hi hi4 => ?_⟩
        · rw [e]
          exact passF_go h1 rfl rfl hcn rfl (and_pow.mpr hag) rfl
        · have hne := (pag_ne n (by omega) h4 a ha b hb hab i hi4 k (by omega) (by omega) b0 hb0).2
          rw [e, Nat.testBit_xor, Nat.testBit_two_pow, h2 i (by omega) hi4]
          rw [decide_eq_false (fun q => hne q.symm), Bool.xor_false]
      · have e : mdF n h a b b0 o (k + 1) = mdF n h a b b0 o k := if_neg hcn
        refine ⟨?_, fun i hi hi4 => ?_⟩
        · rw [e]
          exact passF_no h1 rfl rfl hcn
        · rw [e]; exact h2 i (by omega) hi4
  obtain ⟨h1, h2⟩ := key j (Nat.le_refl _)
  refine passF_ca hj h1 rfl rfl hc.1 rfl (fun q => ?_)
  have := and_pow.mp q
  rw [h2 j (Nat.le_refl _) hj, hc.2] at this
  cases this
theorem ifC {P Q : Prop} [Decidable P] [Decidable Q] (h : P ↔ Q) : (if P then (1 : Int32) else 0) = if Q then 1 else 0 := by
  by_cases q : P
  · rw [if_pos q, if_pos (h.mp q)]
  · rw [if_neg q, if_neg (fun z => q (h.mpr z))]


/-- places, steps -/
def nx (n i : Nat) : Nat := if i + 1 < n then i + 1 else 0
def pv (n i : Nat) : Nat := if 0 < i then i - 1 else n - 1
def su (n p q : Nat) : Nat := if p ≤ q then q - p else q + n - p
def wr (n d : Nat) : Nat := if d < n then d else d - n
/-- the seats: 4 bits a place -/
def sea (f : Nat → Nat) : Nat → Nat
  | 0 => 0
  | m + 1 => sea f m + f m * 16 ^ m
theorem sea_lt {f : Nat → Nat} : ∀ {m : Nat}, (∀ p, p < m → f p < 16) → sea f m < 16 ^ m
  | 0, _ => by simp [sea]
  | m + 1, h => by
    have h1 := sea_lt (m := m) (fun p hp => h p (by omega))
    have h2 := h m (by omega)
    have h3 : f m * 16 ^ m ≤ 15 * 16 ^ m := Nat.mul_le_mul_right _ (by omega)
    have h4 : 16 ^ (m + 1) = 16 * 16 ^ m := by rw [Nat.pow_succ, Nat.mul_comm]
    show sea f m + f m * 16 ^ m < _
    omega
theorem sea_nib {f : Nat → Nat} : ∀ {m p : Nat}, (∀ p, p < m → f p < 16) → p < m → sea f m / 16 ^ p % 16 = f p
  | 0, p, _, hp => absurd hp (Nat.not_lt_zero _)
  | m + 1, p, h, hp => by
    show (sea f m + f m * 16 ^ m) / 16 ^ p % 16 = f p
    by_cases e : p = m
    · subst e
      rw [Nat.add_mul_div_right _ _ (Nat.pow_pos (by omega)), Nat.div_eq_of_lt (sea_lt (fun q hq => h q (by omega)))]
      have := h p (by omega)
      omega
    · have hm : p < m := by omega
      obtain ⟨d, rfl⟩ : ∃ d, m = p + 1 + d := ⟨m - p - 1, by omega⟩
      rw [show f (p + 1 + d) * 16 ^ (p + 1 + d) = (f (p + 1 + d) * 16 ^ d * 16) * 16 ^ p by rw [Nat.pow_add, Nat.pow_succ]; ac_rfl]
      rw [Nat.add_mul_div_right _ _ (Nat.pow_pos (by omega)), Nat.add_mul_mod_self_right]
      exact sea_nib (fun q hq => h q (by omega)) hm
theorem p16 (p : Nat) : 2 ^ (4 * p) = 16 ^ p := by rw [Nat.pow_mul]
theorem sea_big {f : Nat → Nat} {n : Nat} (hn : n ≤ 8) (h : ∀ p, p < n → f p < n) : sea f n < 2 ^ 32 := by
  have h1 := sea_lt (f := f) (m := n) (fun p hp => by have := h p hp; omega)
  have h2 : 16 ^ n ≤ 16 ^ 8 := Nat.pow_le_pow_right (by omega) hn
  omega
theorem sea_big64 {f : Nat → Nat} {n : Nat} (hn : n ≤ 8) (h : ∀ p, p < n → f p < n) : sea f n < 2 ^ 64 := Nat.lt_of_lt_of_le (sea_big hn h) (by omega)
theorem sea_at {f : Nat → Nat} {n p : Nat} (hn : n ≤ 8) (h : ∀ p, p < n → f p < n) (hp : p < n) : sea f n / 2 ^ (4 * p) % 16 = f p := by
  rw [p16]; exact sea_nib (fun q hq => by have := h q hq; omega) hp
/-- a ring of n, who is on which place -/
def Perm (n : Nat) (da pl : Nat → Nat) : Prop := (∀ p, p < n → da p < n) ∧ (∀ i, i < n → pl i < n) ∧ (∀ i, i < n → da (pl i) = i) ∧ ∀ p, p < n → pl (da p) = p
theorem lN_of {a : Nat} : (OfNat.ofNat a : Int64) = lN a := rfl
theorem nI_or (a b : Nat) : nI a ||| nI b = nI (a ||| b) := by
  apply Int32.toBitVec_inj.mp
  rw [Int32.toBitVec_or]
  exact (BitVec.ofNat_or).symm
theorem s31 : ∀ n, n < 32 → ((nI n &&& 31).toBitVec.smod 32).toNat = n := s_l
theorem shlN (a : Nat) {k : Nat} (hk : k < 32) : nI a <<< (nI k &&& 31) = nI (a * 2 ^ k) := by
  apply Int32.toBitVec_inj.mp
  apply BitVec.eq_of_toNat_eq
  rw [pk_shl _ _ k (s_l k hk)]
  show _ = (a * 2 ^ k) % 2 ^ 32
  show ((a % 2 ^ 32) * 2 ^ k) % 2 ^ 32 = _
  rw [Nat.mod_mul_mod]
theorem shrN {a k : Nat} (ha : a < 2 ^ 31) (hk : k < 32) : nI a >>> (nI k &&& 31) = nI (a / 2 ^ k) := pk_shrN ha _ k (s_l k hk)
theorem ushN {a k : Nat} (ha : a < 2 ^ 32) (hk : k < 32) : ((nI a).toUInt32 >>> ((nI k).toUInt32 &&& Int32.toUInt32 31)).toInt32 = nI (a / 2 ^ k) := pk_ushrN ha _ k (s_u k hk)
theorem lN_inj {a b : Nat} (ha : a < 2 ^ 64) (hb : b < 2 ^ 64) : lN a = lN b ↔ a = b := by
  refine ⟨fun h => ?_, fun h => by rw [h]⟩
  have h1 := congrArg (fun x : Int64 => x.toBitVec.toNat) h
  have h2 : (lN a).toBitVec.toNat = (lN b).toBitVec.toNat := h1
  rw [wb_tn ha, wb_tn hb] at h2
  exact h2
theorem lgN_eq {a b : Nat} (ha : a < 2 ^ 64) (hb : b < 2 ^ 64) : lg_cmp (lN a) (lN b) = 0 ↔ a = b := (lg_cmp_eq _ _).trans (lN_inj ha hb)
theorem an15 (a : Nat) : a &&& 15 = a % 16 := Nat.and_two_pow_sub_one_eq_mod a 4
theorem an255 (a : Nat) : a &&& 255 = a % 256 := Nat.and_two_pow_sub_one_eq_mod a 8
theorem an1 (a : Nat) : a &&& 1 = a % 2 := Nat.and_two_pow_sub_one_eq_mod a 1
theorem tb_div (a k : Nat) : a / 2 ^ k % 2 = 1 ↔ a.testBit k = true := by
  rw [Nat.testBit_eq_decide_div_mod_eq]; simp
theorem tb_div0 (a k : Nat) : a / 2 ^ k % 2 = 0 ↔ a.testBit k = false := by
  rw [Nat.testBit_eq_decide_div_mod_eq]
  simp
theorem and_pow {a k : Nat} : a &&& 2 ^ k = 0 ↔ a.testBit k = false := by
  constructor
  · intro h
    have h1 := congrArg (fun x : Nat => x.testBit k) h
    simpa [Nat.testBit_and, Nat.testBit_two_pow_self] using h1
  · intro h
    apply Nat.eq_of_testBit_eq
    intro i
    rw [Nat.testBit_and, Nat.testBit_two_pow, Nat.zero_testBit]
    by_cases e : k = i
    · subst e; simp [h]
    · simp [e]
theorem Nat.one_le_mul_pow (k : Nat) : 1 ≤ 1 * 2 ^ k := by rw [Nat.one_mul]; exact Nat.one_le_two_pow
theorem p64 {i j : Nat} (hi : i < 8) (hj : j < 8) : 2 ^ (8 * i + j) < 2 ^ 64 := Nat.pow_lt_pow_right (by omega) (by omega)
theorem bz_ne {P : Prop} [Decidable P] : ¬ (if P then (1 : Int32) else 0) = 0 ↔ P := by
  by_cases h : P
  · simp [h]
  · simp [h]
theorem ifT {P : Prop} [Decidable P] (h : P) : nI 1 = (if P then (1 : Int32) else 0) := (if_pos h).symm
theorem ifF {P : Prop} [Decidable P] (h : ¬ P) : nI 0 = (if P then (1 : Int32) else 0) := (if_neg h).symm
/-- the sum of 2 to each k below m with P -/
def mk (P : Nat → Bool) : Nat → Nat
  | 0 => 0
  | m + 1 => mk P m ||| (if P m then 2 ^ m else 0)
theorem mk_tb (P : Nat → Bool) : ∀ (m k : Nat), (mk P m).testBit k = (decide (k < m) && P k)
  | 0, k => by simp [mk]
  | m + 1, k => by
    rw [mk, Nat.testBit_or, mk_tb P m k]
    by_cases e : k = m
    · subst e
      cases h : P k <;> simp [h]
    · by_cases h : P m = true
      · have e2 : ¬ m = k := fun q => e q.symm
        simp only [h, if_true, Nat.testBit_two_pow, e2, decide_false, Bool.or_false]
        by_cases hk : k < m
        · have : k < m + 1 := by omega
          simp [hk, this]
        · have : ¬ k < m + 1 := by omega
          simp [hk, this]
      · simp only [h, if_false, Nat.zero_testBit, Bool.or_false]
        by_cases hk : k < m
        · have : k < m + 1 := by omega
          simp [hk, this]
        · have : ¬ k < m + 1 := by omega
          simp [hk, this]
theorem mk_lt (P : Nat → Bool) (m : Nat) : mk P m < 2 ^ m := by
  apply Nat.lt_pow_two_of_testBit
  intro i hi
  rw [mk_tb]
  simp; omega
theorem mk_lt8 {P : Nat → Bool} {m : Nat} (h : m ≤ 8) : mk P m < 256 := Nat.lt_of_lt_of_le (mk_lt P m) (Nat.pow_le_pow_right (n := 2) (by omega) h)
/-- the weaving turned by d -/
def rot (n d : Nat) (da : Nat → Nat) : Nat → Nat := fun p => da ((p + n - d) % n)
theorem sea_congr {f g : Nat → Nat} : ∀ {m : Nat}, (∀ p, p < m → f p = g p) → sea f m = sea g m
  | 0, _ => rfl
  | m + 1, h => by rw [sea, sea, sea_congr (fun p hp => h p (by omega)), h m (by omega)]
theorem sea_inj {f g : Nat → Nat} {m : Nat} (hf : ∀ p, p < m → f p < 16) (hg : ∀ p, p < m → g p < 16) (h : sea f m = sea g m) : ∀ p, p < m → f p = g p := fun p hp => by
  rw [← sea_nib hf hp, ← sea_nib hg hp, h]
theorem sea_split (f : Nat → Nat) (a : Nat) : ∀ b, sea f (a + b) = sea f a + sea (fun p => f (a + p)) b * 16 ^ a
  | 0 => by simp [sea]
  | b + 1 => by
    show sea f (a + b) + f (a + b) * 16 ^ (a + b) = _ + (sea (fun p => f (a + p)) b + f (a + b) * 16 ^ b) * 16 ^ a
    rw [sea_split f a b, Nat.add_mul, Nat.mul_assoc, ← Nat.pow_add, Nat.add_assoc, Nat.add_comm b a]
/-- can two blades cross -/
def can (n h x y : Nat) : Bool := decide (x ≠ y) && (decide (nx n x ≠ y) && (decide (nx n y ≠ x) && (h.testBit x && h.testBit y)))
theorem or_dis {a b k : Nat} (ha : a < 2 ^ k) : b * 2 ^ k ||| a = b * 2 ^ k + a := by
  rw [Nat.mul_comm]; exact (Nat.two_pow_add_eq_or_of_lt ha b).symm
theorem sea_rot {n d : Nat} {da : Nat → Nat} (hn : n ≤ 8) (hd : d ≤ n) (h0 : 0 < n) (hda : ∀ p, p < n → da p < n) : (sea da n * 2 ^ (4 * d) ||| sea da n / 2 ^ (4 * (n - d))) &&& (2 ^ (4 * n) - 1) = sea (rot n (d % n) da) n := by
  have h16 : ∀ p, p < n → da p < 16 := fun p hp => by have := hda p hp; omega
  obtain ⟨c, rfl⟩ : ∃ c, n = c + d := ⟨n - d, by omega⟩
  rw [show c + d - d = c by omega, sea_split da c d, p16, p16, p16]
  have hlo : sea da c < 16 ^ c := sea_lt (fun p hp => h16 p (by omega))
  have hhi : sea (fun p => da (c + p)) d < 16 ^ d := sea_lt (fun p hp => h16 _ (by omega))
  rw [Nat.add_mul_div_right _ _ (Nat.pow_pos (by omega)), Nat.div_eq_of_lt hlo, Nat.zero_add]
  have e16 : (16 : Nat) ^ d = 2 ^ (4 * d) := (p16 d).symm
  rw [e16, or_dis (by rw [← e16]; exact hhi), ← e16]
  rw [show (16 : Nat) ^ (c + d) = 2 ^ (4 * (c + d)) from (p16 _).symm, Nat.and_two_pow_sub_one_eq_mod, p16]
  have key : (sea da c + sea (fun p => da (c + p)) d * 16 ^ c) * 16 ^ d + sea (fun p => da (c + p)) d = (sea da c * 16 ^ d + sea (fun p => da (c + p)) d) + sea (fun p => da (c + p)) d * 16 ^ (c + d) := by
    rw [Nat.add_mul, Nat.mul_assoc, ← Nat.pow_add]; omega
  rw [key, Nat.add_mul_mod_self_right]
  have hsum : sea da c * 16 ^ d + sea (fun p => da (c + p)) d < 16 ^ (c + d) := by
    have h1 : sea da c * 16 ^ d + 16 ^ d ≤ 16 ^ c * 16 ^ d := by
      rw [show sea da c * 16 ^ d + 16 ^ d = (sea da c + 1) * 16 ^ d by rw [Nat.add_mul, Nat.one_mul]]
      exact Nat.mul_le_mul_right _ hlo
    rw [Nat.pow_add]; omega
  rw [Nat.mod_eq_of_lt hsum, Nat.add_comm c d, sea_split _ d c, Nat.add_comm]
  by_cases e : d = d + c
  · have hc : c = 0 := by omega
    subst hc
    rw [Nat.add_zero, Nat.mod_self]
    simp only [sea, Nat.zero_mul, Nat.add_zero]
    apply sea_congr
    intro p hp
    show da (0 + p) = da ((p + d - 0) % d)
    rw [Nat.sub_zero, Nat.add_mod_right, Nat.mod_eq_of_lt hp, Nat.zero_add]
  · have hd2 : d % (d + c) = d := Nat.mod_eq_of_lt (by omega)
    rw [hd2]
    congr 1
    · apply sea_congr
      intro p hp
      show da (c + p) = da ((p + (d + c) - d) % (d + c))
      rw [show p + (d + c) - d = c + p by omega, Nat.mod_eq_of_lt (by omega)]
    · congr 1
      apply sea_congr
      intro p hp
      show da p = da ((d + p + (d + c) - d) % (d + c))
      rw [show d + p + (d + c) - d = p + (d + c) by omega, Nat.add_mod_right, Nat.mod_eq_of_lt (by omega)]
theorem absdiff {a b : Nat} (ha : a < 2 ^ 30) (hb : b < 2 ^ 30) : (if 0 ≤ nI a - nI b then nI a - nI b else 0 - (nI a - nI b)) = nI (if a < b then b - a else a - b) := by
  by_cases h : a < b
  · have hn : ¬ 0 ≤ nI a - nI b := by
      have h1 := pk_sneg hb h
      rw [Int32.le_iff_toInt_le]; rw [Int32.lt_iff_toInt_lt] at h1; omega
    rw [if_neg hn, if_pos h, ← pk_sub (a := b) (b := a) (by omega), Int32.zero_sub, Int32.neg_sub]
  · have e : nI a - nI b = nI (a - b) := pk_sub (by omega)
    rw [e, if_pos (nI_pos' (by omega)), if_neg h]
theorem bit_and {h x y : Nat} : (h / 2 ^ x &&& h / 2 ^ y) &&& 1 = 0 ↔ ¬ (h.testBit x = true ∧ h.testBit y = true) := by
  rw [an1]
  have e : (h / 2 ^ x &&& h / 2 ^ y) % 2 = 0 ↔ (h / 2 ^ x &&& h / 2 ^ y).testBit 0 = false := by
    generalize (h / 2 ^ x &&& h / 2 ^ y) = z
    rw [Nat.testBit_zero, decide_eq_false_iff_not]; omega
  rw [e, Nat.testBit_and, Nat.testBit_div_two_pow, Nat.testBit_div_two_pow, Nat.zero_add, Nat.zero_add]
  cases h.testBit x <;> cases h.testBit y <;> simp
theorem nx_eq {n x y : Nat} (h4 : 4 ≤ n) (hx : x < n) (hy : y < n) : nx n x = y ↔ (y = x + 1 ∨ (x + 1 = n ∧ y = 0)) := by
  unfold nx; split <;> omega
theorem can_iff {n h x y : Nat} : can n h x y = true ↔ (x ≠ y ∧ nx n x ≠ y ∧ nx n y ≠ x ∧ h.testBit x = true ∧ h.testBit y = true) := by
  simp [can]
theorem can_t {n h x y : Nat} (hb : 4 ≤ n ∧ x < n ∧ y < n) (h1 : ¬ (if x < y then y - x else x - y) ≤ 1) (h2 : ¬ n - 1 ≤ (if x < y then y - x else x - y)) (h3 : ¬ (h / 2 ^ x &&& h / 2 ^ y) &&& 1 = 0) : can n h x y = true := by
  rw [can_iff]
  have h4 := Decidable.not_not.mp (fun q => h3 (bit_and.mpr q))
  rw [Ne, Ne, Ne, nx_eq hb.1 hb.2.1 hb.2.2, nx_eq hb.1 hb.2.2 hb.2.1]
  refine ⟨?_, ?_, ?_, h4.1, h4.2⟩ <;> split at h1 <;> split at h2 <;> omega
theorem can_f1 {n h x y : Nat} (h4 : 4 ≤ n) (hx : x < n) (hy : y < n) (h1 : (if x < y then y - x else x - y) ≤ 1) : ¬ can n h x y = true := by
  rw [can_iff, Ne, Ne, Ne, nx_eq h4 hx hy, nx_eq h4 hy hx]
  split at h1 <;> omega
theorem can_f2 {n h x y : Nat} (h4 : 4 ≤ n) (hx : x < n) (hy : y < n) (h1 : n - 1 ≤ (if x < y then y - x else x - y)) : ¬ can n h x y = true := by
  rw [can_iff, Ne, Ne, Ne, nx_eq h4 hx hy, nx_eq h4 hy hx]
  split at h1 <;> omega
theorem can_f3 {n h x y : Nat} (h1 : (h / 2 ^ x &&& h / 2 ^ y) &&& 1 = 0) : ¬ can n h x y = true := by
  rw [can_iff]
  exact fun q => bit_and.mp h1 q.2.2.2
theorem sea_sh {f : Nat → Nat} {n d : Nat} (hn : n ≤ 8) (hd : d ≤ n) (h : ∀ p, p < n → f p < n) : sea f n * 2 ^ (4 * d) < 2 ^ 64 := by
  have h1 := sea_big hn h
  have h2 : 2 ^ (4 * d) ≤ 2 ^ 32 := Nat.pow_le_pow_right (by omega) (by omega)
  have h3 : sea f n * 2 ^ (4 * d) ≤ sea f n * 2 ^ 32 := Nat.mul_le_mul_left _ h2
  omega
theorem p64m {n : Nat} (hn : n ≤ 8) : 2 ^ (4 * n) - 1 < 2 ^ 64 := by
  have h2 : 2 ^ (4 * n) ≤ 2 ^ 32 := Nat.pow_le_pow_right (by omega) (by omega)
  omega


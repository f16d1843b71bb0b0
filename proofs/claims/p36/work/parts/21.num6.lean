/-- a sheet's cell put -/
noncomputable def ptC (ln : Int32) (sz : Nat) (C : Nat → Int32) (i v : Int32) : Nat → Int32 := by
  classical
  exact if inC sz i then upd C i.toNatClampNeg (narL ln v) else C
theorem ptC_no {ln : Int32} {sz : Nat} {C : Nat → Int32} {i v : Int32} (h : ¬ inC sz i) : ptC ln sz C i v = C := by unfold ptC; exact if_neg h
theorem ptC_yes {ln : Int32} {sz : Nat} {C : Nat → Int32} {i v : Int32} (h : inC sz i) : ptC ln sz C i v = upd C i.toNatClampNeg (narL ln v) := by unfold ptC; exact if_pos h
/-- bytes of the tape -/
theorem sb_mod (z : Nat) : (nI z).toInt8.toInt32.toInt8.toInt32 = sb_b (z % 256) := by
  have e1 : (nI z).toInt8.toInt32.toInt8 = (nI z).toInt8 := Int8.toInt8_toInt32 _
  rw [e1]
  unfold sb_b
  congr 1
  apply Int8.toBitVec_inj.mp
  rw [Int32.toBitVec_toInt8, Int32.toBitVec_toInt8, BitVec.signExtend_eq_setWidth_of_le _ (by decide), BitVec.signExtend_eq_setWidth_of_le _ (by decide)]
  apply BitVec.eq_of_toNat_eq
  have e2 : ∀ x : Nat, (nI x).toBitVec.toNat = x % 2 ^ 32 := fun x => rfl
  rw [BitVec.toNat_setWidth, BitVec.toNat_setWidth, e2, e2]
  omega
theorem tb_up {c : ClassId} {n a z : Nat} {T : Nat → Nat} (h : a < 2 ^ 31) : (Sum.inl (c, n, Sum.inl (upd (fun i => sb_b (T i)) (nI a).toNatClampNeg ((nI z).toInt8.toInt32.toInt8.toInt32))) : va_E) = .inl (c, n, .inl (fun i => sb_b (va_up T a (z % 256) i))) := by
  rw [nI_clamp h, sb_mod]
  congr 3
  congr 1
  funext j
  by_cases e : j = a
  · subst e; simp [upd, va_up]
  · simp [upd, va_up, e]
theorem sb_255 {c : Nat} (h : c < 256) : sb_b c &&& nI 255 = nI c := (sb_byte c h).1
def feT (T : Nat → Nat) (len vv : Nat) : Nat → Nat → Nat
  | 0 => T
  | j + 1 => va_up (feT T len vv j) (len + j) (vv / 2 ^ (56 - 8 * j) % 256)
theorem feT_lt {T : Nat → Nat} {len vv : Nat} (h : ∀ i, T i < 256) : ∀ j i, feT T len vv j i < 256
  | 0, i => h i
  | j + 1, i => by
    show va_up _ _ _ i < 256
    unfold va_up; split
    · exact Nat.mod_lt _ (by omega)
    · exact feT_lt h j i
def dg (c : Nat) : Bool := decide (48 ≤ c) && decide (c ≤ 57)
/-- the byte on a place as the class reads it -/
def byI (T : Nat → Nat) (len p0 : Nat) : Int32 := if p0 < len then nI (T p0) else -1
theorem byI_in {T : Nat → Nat} {len p0 : Nat} (h : p0 < len) : byI T len p0 = nI (T p0) := if_pos h
theorem byI_out {T : Nat → Nat} {len p0 : Nat} (h : len ≤ p0) : byI T len p0 = -1 := if_neg (by omega)
theorem byI_dg {T : Nat → Nat} {len p0 : Nat} (hT : ∀ i, T i < 256) : (48 ≤ byI T len p0 ∧ byI T len p0 ≤ 57) ↔ (p0 < len ∧ dg (T p0) = true) := by
  by_cases h : p0 < len
  · rw [byI_in h]
    have := hT p0
    rw [show (48 : Int32) = nI 48 from rfl, show (57 : Int32) = nI 57 from rfl, nI_leI (by omega) (by omega), nI_leI (by omega) (by omega)]
    unfold dg
    simp [h]
  · rw [byI_out (by omega)]
    constructor
    · intro q; exact absurd q.1 (by decide)
    · intro q; exact absurd q.1 h
theorem byI_32 {T : Nat → Nat} {len p0 : Nat} (hT : ∀ i, T i < 256) : byI T len p0 = nI 32 ↔ (p0 < len ∧ T p0 = 32) := by
  by_cases h : p0 < len
  · rw [byI_in h]
    have := hT p0
    rw [nI_eq (by omega) (by omega)]
    simp [h]
  · rw [byI_out (by omega)]
    constructor
    · intro q; exact absurd q (by decide)
    · intro q; exact absurd q.1 h
/-- the digits' end, and the number's value -/
def dgE (T : Nat → Nat) (len q : Nat) : Nat := fsr (fun i => !dg (T i)) (len - q) q
def blE (T : Nat → Nat) (len q : Nat) : Nat := fsr (fun i => decide (T i ≠ 32)) (len - q) q
/-- the value behind j digits from q on -/
def nuV (T : Nat → Nat) (q : Nat) : Nat → Nat
  | 0 => 0
  | j + 1 => if j < 2 then 10 * nuV T q j + T (q + j) - 48 else nuV T q j
theorem nuV_lt {T : Nat → Nat} {q : Nat} (hT : ∀ i, T i < 256) : ∀ j, nuV T q j < 3000
  | 0 => by show 0 < 3000; omega
  | 1 => by have := hT q; show (if 0 < 2 then 10 * 0 + T (q + 0) - 48 else 0) < 3000; rw [if_pos (by omega)]; simp only [Nat.add_zero]; omega
  | 2 => by
    have h1 := hT q
    have h2 := hT (q + 1)
    show (if 1 < 2 then 10 * (if 0 < 2 then 10 * 0 + T (q + 0) - 48 else 0) + T (q + 1) - 48 else _) < 3000
    rw [if_pos (by omega), if_pos (by omega)]; simp only [Nat.add_zero]; omega
  | j + 3 => by
    have := nuV_lt (q := q) hT (j + 2)
    show (if j + 2 < 2 then _ else nuV T q (j + 2)) < 3000
    rw [if_neg (by omega)]; exact this
def knd (s : Int32) : Nat := if s = nI 40 then 2 else if s = nI 41 then 3 else if s = nI 46 then 4 else 6


-- the law's own numbers: parts, cells, a figure's rows and its text
def ptv (v : Int32) (n : Nat) : Nat := v.toBitVec.toNat % 2147483648 % n
theorem ptv_lt (v : Int32) {n : Nat} (h : 0 < n) : ptv v n < n := Nat.mod_lt _ h
theorem pt_sur (x : Int32) : x = nI x.toBitVec.toNat := Int32.toBitVec_inj.mp (BitVec.eq_of_toNat_eq (by
  show _ = (BitVec.ofNat 32 x.toBitVec.toNat).toNat
  rw [BitVec.toNat_ofNat]
  exact (Nat.mod_eq_of_lt x.toBitVec.isLt).symm))
theorem pt_and (x : Int32) : x &&& nI 2147483647 = nI (x.toBitVec.toNat % 2147483648) := by
  have e := pt_sur x
  have h : x &&& nI 2147483647 = nI x.toBitVec.toNat &&& nI 2147483647 := congrArg (fun z => z &&& nI 2147483647) e
  rw [h, nx_and]
  congr 1
  exact Nat.and_two_pow_sub_one_eq_mod _ 31
def cev (xs : Nat → Int32) (L k : Nat) : Int32 := if L = 0 then nI (7919 * k + 3) else (xs (k % L) >>> (nI (k % 7) &&& 31)) ^^^ nI (k / L * 31) ^^^ nI (k * 2654435)
def ltr (s : Nat) : Nat := if s = 0 then 117 else if s = 1 then 111 else if s = 2 then 116 else if s = 3 then 114 else if s = 4 then 100 else 107
abbrev DS : Type := Nat × (Nat → Nat) × (Nat → Nat)
def srt (y : Int32) : Nat := if ptv y 8 = 0 then 6 else if ptv y 4 = 0 then 2 + ptv (y >>> (nI 3 &&& 31)) 2 else ptv (y >>> (nI 5 &&& 31)) 2
def nub (y : Int32) (n s : Nat) : Nat := if s = 6 then 0 else ptv (y >>> (nI 7 &&& 31)) n
theorem srt_ok (y : Int32) : srt y ≤ 3 ∨ srt y = 6 := by
  have h1 := ptv_lt (y >>> (nI 3 &&& 31)) (n := 2) (by omega)
  have h2 := ptv_lt (y >>> (nI 5 &&& 31)) (n := 2) (by omega)
  unfold srt
  split
  · exact Or.inr rfl
  · split <;> exact Or.inl (by omega)
theorem nub_lt {y : Int32} {n s : Nat} (h : 0 < n) : nub y n s < n := by
  unfold nub
  split
  · exact h
  · exact ptv_lt _ h
def beR (y : Int32) (n : Nat) (E : DS) : DS := (E.1 + 1, va_up E.2.1 E.1 (srt y), va_up E.2.2 E.1 (nub y n (srt y)))
def inR (Y : Nat → Int32) (n : Nat) (E : DS) : Nat → DS
  | 0 => E
  | i + 1 => beR (Y i) n (inR Y n E i)
def rpS (f sz i : Nat) (E : DS) : DS := (E.1 + 1, va_up E.2.1 E.1 (E.2.1 (f + i % sz)), va_up E.2.2 E.1 (E.2.2 (f + i % sz)))
def rpR (f sz : Nat) (E : DS) : Nat → DS
  | 0 => E
  | i + 1 => rpS f sz i (rpR f sz E i)
def inn9 (x : Int32) : Nat := if ptv x 4 = 0 then 1 + ptv (x >>> (nI 3 &&& 31)) 3 else 1
def tms9 (x : Int32) : Nat := if 1 < inn9 x ∨ ptv x 4 = 0 then 1 + ptv (x >>> (nI 5 &&& 31)) 3 else 0
theorem inn9_b (x : Int32) : 1 ≤ inn9 x ∧ inn9 x ≤ 3 := by
  have h1 := ptv_lt (x >>> (nI 3 &&& 31)) (n := 3) (by omega)
  unfold inn9
  split <;> omega
theorem tms9_b (x : Int32) : tms9 x ≤ 3 := by
  have h1 := ptv_lt (x >>> (nI 5 &&& 31)) (n := 3) (by omega)
  unfold tms9
  split <;> omega
def itR (Y : Nat → Int32) (x : Int32) (n : Nat) (E : DS) : DS := rpR E.1 (inn9 x) (inR Y n E (inn9 x)) (inn9 x * (tms9 x - 1))
def fgR (xs : Nat → Int32) (L fr n : Nat) : Nat → DS
  | 0 => (0, fun _ => 0, fun _ => 0)
  | k + 1 => itR (fun i => cev xs L (fr + 6 + 3 * k + i)) (cev xs L (fr + 1 + k)) n (fgR xs L fr n k)
def fgI (xs : Nat → Int32) (L fr : Nat) : Nat := 1 + ptv (cev xs L fr) 4
theorem fgI_b {xs : Nat → Int32} {L fr : Nat} : 1 ≤ fgI xs L fr ∧ fgI xs L fr ≤ 4 := by
  have := ptv_lt (cev xs L fr) (n := 4) (by omega)
  unfold fgI
  omega
def rw8 (E : DS) : Nat → Nat := fun j => 8 * E.2.1 j + E.2.2 j
theorem inR_1 {Y : Nat → Int32} {n : Nat} {E : DS} : ∀ i, (inR Y n E i).1 = E.1 + i
  | 0 => rfl
  | i + 1 => by show (inR Y n E i).1 + 1 = _; rw [inR_1 i]; omega
theorem rpR_1 {f sz : Nat} {E : DS} : ∀ i, (rpR f sz E i).1 = E.1 + i
  | 0 => rfl
  | i + 1 => by show (rpR f sz E i).1 + 1 = _; rw [rpR_1 i]; omega
theorem itR_1 {Y : Nat → Int32} {x : Int32} {n : Nat} {E : DS} : (itR Y x n E).1 = E.1 + inn9 x + inn9 x * (tms9 x - 1) := by
  unfold itR
  rw [rpR_1, inR_1]
theorem it_9 (x : Int32) : inn9 x * (tms9 x - 1) ≤ 6 := by
  have h1 := inn9_b x
  have h2 := tms9_b x
  have : inn9 x * (tms9 x - 1) ≤ 3 * 2 := Nat.mul_le_mul h1.2 (by omega)
  omega
theorem fgR_1 {xs : Nat → Int32} {L fr n : Nat} : ∀ k, (fgR xs L fr n k).1 ≤ 9 * k
  | 0 => Nat.le_refl _
  | k + 1 => by
    have ih := fgR_1 (xs := xs) (L := L) (fr := fr) (n := n) k
    show (itR _ _ _ _).1 ≤ _
    rw [itR_1]
    have h1 := inn9_b (cev xs L (fr + 1 + k))
    have h2 := it_9 (cev xs L (fr + 1 + k))
    omega
/-- a row's beats are sound -/
def dsO (n : Nat) (E : DS) : Prop := ∀ j, j < E.1 → (E.2.1 j ≤ 3 ∨ E.2.1 j = 6) ∧ E.2.2 j < n
theorem beR_o {y : Int32} {n : Nat} {E : DS} (hn : 0 < n) (h : dsO n E) : dsO n (beR y n E) := fun j hj => by
  have hj : j < E.1 + 1 := hj
  show (va_up E.2.1 E.1 (srt y) j ≤ 3 ∨ va_up E.2.1 E.1 (srt y) j = 6) ∧ va_up E.2.2 E.1 (nub y n (srt y)) j < n
  by_cases e : j = E.1
  · subst e
    rw [va_up_self, va_up_self]
    exact ⟨srt_ok y, nub_lt hn⟩
  · rw [va_up_ne _ _ e, va_up_ne _ _ e]
    exact h j (by omega)
theorem inR_o {Y : Nat → Int32} {n : Nat} {E : DS} (hn : 0 < n) (h : dsO n E) : ∀ i, dsO n (inR Y n E i)
  | 0 => h
  | i + 1 => beR_o hn (inR_o hn h i)
theorem rpR_o {f sz n : Nat} {E : DS} (h : dsO n E) (hsz : 0 < sz) (hf : f + sz ≤ E.1) : ∀ i, dsO n (rpR f sz E i)
  | 0 => h
  | i + 1 => fun j hj => by
    have ih := rpR_o h hsz hf i
    have e1 := rpR_1 (f := f) (sz := sz) (E := E) i
    have hm := Nat.mod_lt i hsz
    have hj : j < (rpR f sz E i).1 + 1 := hj
    show (va_up (rpR f sz E i).2.1 (rpR f sz E i).1 ((rpR f sz E i).2.1 (f + i % sz)) j ≤ 3 ∨ va_up (rpR f sz E i).2.1 (rpR f sz E i).1 ((rpR f sz E i).2.1 (f + i % sz)) j = 6) ∧ va_up (rpR f sz E i).2.2 (rpR f sz E i).1 ((rpR f sz E i).2.2 (f + i % sz)) j < n
    by_cases e : j = (rpR f sz E i).1
    · subst e
      rw [va_up_self, va_up_self]
      exact ih _ (by omega)
    · rw [va_up_ne _ _ e, va_up_ne _ _ e]
      exact ih j (by omega)
theorem itR_o {Y : Nat → Int32} {x : Int32} {n : Nat} {E : DS} (hn : 0 < n) (h : dsO n E) : dsO n (itR Y x n E) := rpR_o (inR_o hn h _) (inn9_b x).1 (by rw [inR_1]; omega) _
theorem fgR_o {xs : Nat → Int32} {L fr n : Nat} (hn : 0 < n) : ∀ k, dsO n (fgR xs L fr n k)
  | 0 => fun j hj => absurd hj (Nat.not_lt_zero _)
  | k + 1 => itR_o hn (fgR_o hn k)
theorem rw8_s {E : DS} {n : Nat} (h8 : n ≤ 8) (h : dsO n E) {j : Nat} (hj : j < E.1) : rw8 E j / 8 ≤ 3 ∨ rw8 E j / 8 = 6 := by
  have := h j hj
  unfold rw8
  omega
theorem rpR_lo {f sz : Nat} {E : DS} : ∀ i j, j < E.1 → (rpR f sz E i).2.1 j = E.2.1 j ∧ (rpR f sz E i).2.2 j = E.2.2 j
  | 0, _, _ => ⟨rfl, rfl⟩
  | i + 1, j, hj => by
    have ih := rpR_lo (f := f) (sz := sz) i j hj
    have e1 := rpR_1 (f := f) (sz := sz) (E := E) i
    show va_up (rpR f sz E i).2.1 (rpR f sz E i).1 _ j = _ ∧ va_up (rpR f sz E i).2.2 (rpR f sz E i).1 _ j = _
    rw [va_up_ne _ _ (by omega), va_up_ne _ _ (by omega)]
    exact ih
theorem rpR_hi {f sz : Nat} {E : DS} (hsz : 0 < sz) (hf : f + sz ≤ E.1) : ∀ i j, j < i → (rpR f sz E i).2.1 (E.1 + j) = E.2.1 (f + j % sz) ∧ (rpR f sz E i).2.2 (E.1 + j) = E.2.2 (f + j % sz)
  | 0, j, hj => absurd hj (Nat.not_lt_zero _)
  | i + 1, j, hj => by
    have e1 := rpR_1 (f := f) (sz := sz) (E := E) i
    have hm := Nat.mod_lt i hsz
    show va_up (rpR f sz E i).2.1 (rpR f sz E i).1 ((rpR f sz E i).2.1 (f + i % sz)) (E.1 + j) = _ ∧ va_up (rpR f sz E i).2.2 (rpR f sz E i).1 ((rpR f sz E i).2.2 (f + i % sz)) (E.1 + j) = _
    rw [e1]
    by_cases e : j = i
    · subst e
      rw [va_up_self, va_up_self]
      exact rpR_lo j _ (by omega)
    · rw [va_up_ne _ _ (by omega), va_up_ne _ _ (by omega)]
      exact rpR_hi hsz hf i j (by omega)
-- the text as it is written
theorem ltr_x {s : Nat} (h : s ≤ 3) : ixL (ltr s) = s ∧ dg (ltr s) = false ∧ ¬ ltr s = 32 ∧ ltr s < 128 := by
  rcases (show s = 0 ∨ s = 1 ∨ s = 2 ∨ s = 3 by omega) with rfl | rfl | rfl | rfl <;> decide
theorem up_lo {T : Nat → Nat} {len v : Nat} : ∀ j, j < len → va_up T len v j = T j := fun j hj => va_up_ne _ _ (by omega)
theorem tx_act {T : Nat → Nat} {len op em f m n : Nat} {E : DS} {y : Int32} (h : TXP T len E.1 (rw8 E) op em f m) (hn : 0 < n) (h8 : n ≤ 8) (hs : ¬ srt y = 6) (hm : E.1 < 200) : TXP (va_up (va_up (va_up T len (ltr (srt y))) (len + 1) (48 + nub y n (srt y))) (len + 1 + 1) 32) (len + 1 + 1 + 1) (beR y n E).1 (rw8 (beR y n E)) op 0 f m := by
  have s3 : srt y ≤ 3 := by have := srt_ok y; omega
  obtain ⟨l1, l2, l3, l4⟩ := ltr_x s3
  have hv := nub_lt (y := y) (s := srt y) hn
  refine TXP_act (c := ltr (srt y)) (sort := srt y) (num := nub y n (srt y)) h (fun j hj => ?_) ?_ l1 (by omega) l2 l3 ?_ (by omega) ?_ hm (fun j hj => ?_) ?_
  · rw [va_up_ne _ _ (by omega), va_up_ne _ _ (by omega), va_up_ne _ _ (by omega)]
  · rw [va_up_ne _ _ (by omega), va_up_ne _ _ (by omega), va_up_self]
  · rw [va_up_ne _ _ (by omega), va_up_self]
  · exact va_up_self ..
  · show 8 * va_up E.2.1 E.1 _ j + va_up E.2.2 E.1 _ j = 8 * E.2.1 j + E.2.2 j
    rw [va_up_ne _ _ (by omega), va_up_ne _ _ (by omega)]
  · show 8 * va_up E.2.1 E.1 _ E.1 + va_up E.2.2 E.1 _ E.1 = _
    rw [va_up_self, va_up_self]
theorem tx_dot {T : Nat → Nat} {len op em f m n : Nat} {E : DS} {y : Int32} (h : TXP T len E.1 (rw8 E) op em f m) (hs : srt y = 6) (hm : E.1 < 200) : TXP (va_up T len 46) (len + 1) (beR y n E).1 (rw8 (beR y n E)) op 0 f m := by
  refine TXP_dot h (fun j hj => up_lo j hj) (va_up_self ..) hm (fun j hj => ?_) ?_
  · show 8 * va_up E.2.1 E.1 _ j + va_up E.2.2 E.1 _ j = 8 * E.2.1 j + E.2.2 j
    rw [va_up_ne _ _ (by omega), va_up_ne _ _ (by omega)]
  · show 8 * va_up E.2.1 E.1 _ E.1 + va_up E.2.2 E.1 _ E.1 = _
    rw [va_up_self, va_up_self, hs]
    unfold nub
    rw [if_pos rfl]
theorem tx_open {T R : Nat → Nat} {len many em f m x : Nat} (h : TXP T len many R 0 em f m) (hx : 1 ≤ x) (hx9 : x < 10) : TXP (va_up (va_up T len (48 + x)) (len + 1) 40) (len + 1 + 1) many R 1 1 many x := by
  refine TXP_open h (fun j hj => ?_) ?_ hx hx9 (va_up_self ..)
  · rw [va_up_ne _ _ (by omega), va_up_ne _ _ (by omega)]
  · rw [va_up_ne _ _ (by omega), va_up_self]
theorem TXP_f {T R : Nat → Nat} {len many em f m f2 m2 : Nat} (h : TXP T len many R 0 em f m) : TXP T len many R 0 em f2 m2 := by
  intro Fl FB kn T2 L p0 h0 hT2 hL
  obtain ⟨i, q, pl, p, e, hi, hq, hb, b12, b34, b56, -⟩ := h Fl FB kn T2 L p0 h0 hT2 hL
  exact ⟨i, q, pl, p, e, hi, hq, hb, b12, b34, b56, fun z => absurd z (by decide)⟩
theorem tx_close {T : Nat → Nat} {len n : Nat} {E : DS} {Y : Nat → Int32} {x : Int32} (h : TXP T len (inR Y n E (inn9 x)).1 (rw8 (inR Y n E (inn9 x))) 1 0 E.1 (tms9 x)) (ht : 1 ≤ tms9 x) (hm : E.1 < 100) : TXP (va_up T len 41) (len + 1) (itR Y x n E).1 (rw8 (itR Y x n E)) 0 0 0 0 := by
  have hi := inn9_b x
  have h9 := it_9 x
  have e1 := inR_1 (Y := Y) (n := n) (E := E) (inn9 x)
  have es : (inR Y n E (inn9 x)).1 - E.1 = inn9 x := by omega
  have q := TXP_close (T1 := va_up T len 41) (R1 := rw8 (itR Y x n E)) h (fun j hj => up_lo j hj) (va_up_self ..) ht (by omega) (by rw [es]; omega) (fun j hj => ?_) (fun j hj => ?_)
  · rw [es] at q
    have e2 : (itR Y x n E).1 = (inR Y n E (inn9 x)).1 + inn9 x * (tms9 x - 1) := by rw [itR_1, e1]
    rw [e2]
    exact TXP_f q
  · show 8 * (rpR E.1 (inn9 x) (inR Y n E (inn9 x)) _).2.1 j + (rpR E.1 (inn9 x) (inR Y n E (inn9 x)) _).2.2 j = _
    have z := rpR_lo (f := E.1) (sz := inn9 x) (E := inR Y n E (inn9 x)) (inn9 x * (tms9 x - 1)) j hj
    rw [z.1, z.2]
    rfl
  · rw [es] at hj ⊢
    show 8 * (rpR E.1 (inn9 x) (inR Y n E (inn9 x)) _).2.1 ((inR Y n E (inn9 x)).1 + j) + (rpR E.1 (inn9 x) (inR Y n E (inn9 x)) _).2.2 ((inR Y n E (inn9 x)).1 + j) = _
    have z := rpR_hi (f := E.1) (sz := inn9 x) (E := inR Y n E (inn9 x)) hi.1 (by omega) (inn9 x * (tms9 x - 1)) j hj
    rw [z.1, z.2]
    rfl
theorem tx_none {T : Nat → Nat} {len n f m : Nat} {E : DS} {Y : Nat → Int32} {x : Int32} (h : TXP T len (inR Y n E (inn9 x)).1 (rw8 (inR Y n E (inn9 x))) 0 0 f m) (ht : tms9 x = 0) : TXP T len (itR Y x n E).1 (rw8 (itR Y x n E)) 0 0 0 0 := by
  have e : itR Y x n E = inR Y n E (inn9 x) := by
    unfold itR
    rw [ht]
    rfl
  rw [e]
  exact TXP_f h
-- eight bytes in a long
def byV (c : Nat → Nat) : Nat → Nat
  | 0 => 0
  | d + 1 => byV c d * 256 + c d
def cT (T : Nat → Nat) (n z : Nat) : Nat → Nat := fun d => if z + d < n then T (z + d) else 32
theorem byV_lt {c : Nat → Nat} (h : ∀ i, c i < 256) : ∀ d, byV c d < 256 ^ d
  | 0 => by show 0 < 1; omega
  | d + 1 => by
    have ih := byV_lt h d
    have := h d
    show byV c d * 256 + c d < 256 ^ d * 256
    omega
theorem byV_64 {c : Nat → Nat} (h : ∀ i, c i < 256) {d : Nat} (hd : d ≤ 8) : byV c d < 2 ^ 64 := by
  have h1 := byV_lt h d
  have h2 : 256 ^ d ≤ 256 ^ 8 := Nat.pow_le_pow_right (by omega) hd
  have h3 : (256 : Nat) ^ 8 = 2 ^ 64 := by decide
  omega
theorem byV_56 {c : Nat → Nat} (h : ∀ i, c i < 256) {d : Nat} (hd : d < 8) : byV c d * 2 ^ 8 < 2 ^ 64 := by
  have h1 := byV_lt h d
  have h2 : 256 ^ d ≤ 256 ^ 7 := Nat.pow_le_pow_right (by omega) (by omega)
  have h3 : (256 : Nat) ^ 7 = 2 ^ 56 := by decide
  omega
theorem byV_s {c : Nat → Nat} {d x : Nat} (hx : x < 256) (hc : c d = x) : byV c d * 2 ^ 8 ||| x = byV c (d + 1) := by
  rw [or_dis (show x < 2 ^ 8 from hx)]
  show _ = byV c d * 256 + c d
  rw [hc]
theorem byV_at {c : Nat → Nat} (h : ∀ i, c i < 256) : ∀ d j, j < d → byV c d / 256 ^ (d - 1 - j) % 256 = c j
  | 0, j, hj => absurd hj (Nat.not_lt_zero _)
  | d + 1, j, hj => by
    by_cases e : j = d
    · subst e
      rw [show j + 1 - 1 - j = 0 by omega, Nat.pow_zero, Nat.div_one]
      show (byV c j * 256 + c j) % 256 = c j
      have := h j
      omega
    · have ih := byV_at h d j (by omega)
      rw [show d + 1 - 1 - j = (d - 1 - j) + 1 by omega, Nat.pow_succ, Nat.mul_comm, ← Nat.div_div_eq_div_mul]
      have : byV c (d + 1) / 256 = byV c d := by
        show (byV c d * 256 + c d) / 256 = _
        have := h d
        omega
      rw [this]
      exact ih
theorem p256 (k : Nat) : (256 : Nat) ^ k = 2 ^ (8 * k) := by
  rw [show (256 : Nat) = 2 ^ 8 by decide, ← Nat.pow_mul]
theorem feT_at {T : Nat → Nat} {len : Nat} {c : Nat → Nat} (h : ∀ i, c i < 256) : ∀ d, d ≤ 8 → (∀ j, j < len → feT T len (byV c 8) d j = T j) ∧ ∀ j, j < d → feT T len (byV c 8) d (len + j) = c j
  | 0, _ => ⟨fun _ _ => rfl, fun j hj => absurd hj (Nat.not_lt_zero _)⟩
  | d + 1, hd => by
    have ih := feT_at (T := T) (len := len) h d (by omega)
    refine ⟨fun j hj => ?_, fun j hj => ?_⟩
    · show va_up (feT T len (byV c 8) d) (len + d) _ j = _
      rw [va_up_ne _ _ (by omega)]
      exact ih.1 j hj
    · show va_up (feT T len (byV c 8) d) (len + d) (byV c 8 / 2 ^ (56 - 8 * d) % 256) (len + j) = c j
      by_cases e : j = d
      · subst e
        rw [va_up_self]
        have q := byV_at h 8 j (by omega)
        rw [p256, show 8 * (8 - 1 - j) = 56 - 8 * j by omega] at q
        exact q
      · rw [va_up_ne _ _ (by omega)]
        exact ih.2 j (by omega)
theorem cT_lt {T : Nat → Nat} {n z : Nat} (h : ∀ j, j < n → T j < 128) : ∀ i, cT T n z i < 256 := fun i => by
  unfold cT
  split
  · rename_i q
    have := h _ q
    omega
  · omega

/-- the first from i on, within d steps, with P -/
def fsr (P : Nat → Bool) : Nat → Nat → Nat
  | 0, i => i
  | d + 1, i => if P i = true then i else fsr P d (i + 1)
theorem fsr_stop {P : Nat → Bool} {m i j : Nat} (h1 : i ≤ j) (h2 : j < m) (hno : ∀ k, i ≤ k → k < j → P k = false) (hy : P j = true) : fsr P (m - i) i = j := by
  obtain ⟨d, rfl⟩ : ∃ d, j = i + d := ⟨j - i, by omega⟩
  induction d generalizing i with
  | zero =>
    obtain ⟨r, hr⟩ : ∃ r, m - i = r + 1 := ⟨m - i - 1, by omega⟩
    rw [hr, fsr, if_pos (by simpa using hy)]; rfl
  | succ d ih =>
    obtain ⟨r, hr⟩ : ∃ r, m - i = r + 1 := ⟨m - i - 1, by omega⟩
    rw [hr, fsr, if_neg (by rw [hno i (by omega) (by omega)]; decide), show r = m - (i + 1) by omega]
    have := ih (i := i + 1) (by omega) (by omega) (fun k a b => hno k (by omega) (by omega)) (by rw [show i + 1 + d = i + (d + 1) by omega]; exact hy)
    rw [this]; omega
theorem fsr_none {P : Nat → Bool} {m i : Nat} (h1 : i ≤ m) (hno : ∀ k, i ≤ k → k < m → P k = false) : fsr P (m - i) i = m := by
  obtain ⟨d, hd⟩ : ∃ d, m - i = d := ⟨_, rfl⟩
  induction d generalizing i with
  | zero => rw [hd, fsr]; omega
  | succ d ih =>
    rw [hd, fsr, if_neg (by rw [hno i (by omega) (by omega)]; decide)]
    have := ih (i := i + 1) (by omega) (fun k a b => hno k (by omega) (by omega)) (by omega)
    rw [show d = m - (i + 1) by omega]; exact this
theorem fsr_bd (P : Nat → Bool) {m i : Nat} (h : i ≤ m) : i ≤ fsr P (m - i) i ∧ fsr P (m - i) i ≤ m := by
  obtain ⟨d, hd⟩ : ∃ d, m - i = d := ⟨_, rfl⟩
  induction d generalizing i with
  | zero => rw [hd, fsr]; omega
  | succ d ih =>
    rw [hd, fsr]
    split
    · omega
    · have := ih (i := i + 1) (by omega) (by omega)
      rw [show m - (i + 1) = d by omega] at this
      omega
theorem fsr_yes {P : Nat → Bool} {m i : Nat} (h : i ≤ m) (hl : fsr P (m - i) i < m) : P (fsr P (m - i) i) = true := by
  obtain ⟨d, hd⟩ : ∃ d, m - i = d := ⟨_, rfl⟩
  induction d generalizing i with
  | zero => rw [hd, fsr] at hl; omega
  | succ d ih =>
    rw [hd, fsr] at hl ⊢
    split
    · assumption
    · rename_i hp
      rw [if_neg hp] at hl
      have := ih (i := i + 1) (by omega) (by rw [show m - (i + 1) = d by omega]; exact hl) (by omega)
      rw [show m - (i + 1) = d by omega] at this
      exact this
theorem fsr_no {P : Nat → Bool} {m i : Nat} (h : i ≤ m) : ∀ k, i ≤ k → k < fsr P (m - i) i → P k = false := by
  obtain ⟨d, hd⟩ : ∃ d, m - i = d := ⟨_, rfl⟩
  induction d generalizing i with
  | zero => rw [hd, fsr]; intro k a b; omega
  | succ d ih =>
    rw [hd, fsr]
    split
    · intro k a b; omega
    · rename_i hp
      intro k a b
      by_cases e : k = i
      · subst e; cases q : P k
        · rfl
        · exact absurd q hp
      · have := ih (i := i + 1) (by omega) (by omega)
        rw [show m - (i + 1) = d by omega] at this
        exact this k (by omega) b
/-- a village's figures -/
def apV (V : Nat → Nat) (len v : Nat) : Nat → Nat := if len < 16 then va_up V len v else V
def apVL (len : Nat) : Nat := if len < 16 then len + 1 else len
def pfr (V : Nat → Nat) (len f i : Nat) : Nat := fsr (fun k => decide (V k = f)) (len - i) i
theorem apV_lt {V : Nat → Nat} {len v : Nat} (h : ∀ i, V i < 8) (hv : v < 8) : ∀ i, apV V len v i < 8 := fun i => by
  unfold apV va_up; split
  · dsimp only; split; exact hv; exact h i
  · exact h i
/-- a sheet's cells -/
def flC (n : Nat) (v : Int32) (C : Nat → Int32) : Nat → Int32 := fun i => if i < n then v else C i
theorem flC_0 (v : Int32) (C : Nat → Int32) : C = flC 0 v C := by funext i; unfold flC; rw [if_neg (by omega)]
theorem flC_s (i : Nat) (v : Int32) (C : Nat → Int32) : upd (flC i v C) i v = flC (i + 1) v C := by
  funext j
  unfold upd flC
  by_cases h : j = i
  · rw [if_pos h, if_pos (by omega)]
  · rw [if_neg h]
    by_cases h2 : j < i
    · rw [if_pos h2, if_pos (by omega)]
    · rw [if_neg h2, if_neg (by omega)]
def narL (ln v : Int32) : Int32 := if ln = 0 then v.toInt8.toInt32 else if ln = 1 then v.toInt16.toInt32 else v
def inC (sz : Nat) (i : Int32) : Prop := 0 ≤ i ∧ i < nI sz
theorem inC_dec (sz : Nat) (i : Int32) : inC sz i ∨ ¬ inC sz i := Classical.em _
theorem inC_nat {sz : Nat} {i : Int32} (hs : sz ≤ 60) (h : inC sz i) : ∃ j, j < sz ∧ i = nI j := by
  obtain ⟨j, hj, rfl⟩ := nI_of (Int32.not_lt.mpr h.1)
  exact ⟨j, (nI_ltI hj (by omega)).mp h.2, rfl⟩
theorem inC_no1 {sz : Nat} {i : Int32} (h : i < 0) : ¬ inC sz i := fun q => absurd q.1 (Int32.not_le.mpr h)
theorem inC_no2 {sz : Nat} {i : Int32} (h : nI sz ≤ i) : ¬ inC sz i := fun q => absurd q.2 (Int32.not_lt.mpr h)
theorem inC_yes {sz : Nat} {i : Int32} (h1 : ¬ i < 0) (h2 : ¬ nI sz ≤ i) : inC sz i := ⟨Int32.not_lt.mp h1, Int32.not_le.mp h2⟩
theorem inC_60 {sz : Nat} {i : Int32} (hs : sz ≤ 60) (h : inC sz i) (h2 : nI 60 ≤ i) : False := by
  obtain ⟨j, hj, rfl⟩ := inC_nat hs h
  have := (nI_leI (a := 60) (b := j) (by omega) (by omega)).mp h2
  omega
section KSV
variable {p : Program} {l : Launch} {e : Env} {R : Room} {s : State} {m : MethodId} {args : Array Value} {below : List Frame} {meth : Method} {c : Code} {H : Heap} {locs : List Loc} {cells slots : Nat} {Q : State → Prop}
variable {cc : ByteArray} {pc nL : Nat} {ls : Array Slot} {rest st0 : List Value} {D : va_G} {cy : Nat → ClassId} {A : Nat → Prop} {H0 : Heap} {ad : Nat → Nat} {N : Nat} {g : Nat → va_E} {own : String}
theorem kSMv {y : MethodName} {b : ByteArray} {maxL f lo n idx : Nat} {ret : Option FieldType} {As : List Value} {post : (Nat → va_E) → Prop} (S : CallFix p m c cc nL s args wsL_law own) (hK : va_K D vwCl (tyv cy) s) (hP : MM D ad N g H) (hS : va_S A H0 H locs) (hA : ∀ q, AA ad N q → A q) (hM : Met l y (WS y b maxL ret) (rmF f lo) (PP As D cy ad N g) (QV post D ad N) 0 0 (AA ad N)) (hl : CS own idx y b maxL ret n) (hR : CR R f lo maxL) (hn : As.length = n) (hsz : ls.size = nL) (hst : st0 = As.reverse ++ rest) (hW : (rest.map fun v => v.category).sum ≤ 8) (hf : cells ≤ R.cells ∧ slots ≤ R.slots) (hdg : decode cc pc = .ok (.invokestatic idx, 3))
    (kk : ∀ (g1 : Nat → va_E) (H1 : Heap) (locs1 : List Loc), post g1 → MM D ad N g1 H1 → va_S A H0 H1 locs1 → W p l e R s m args below meth c H1 locs1 cells slots Q (F0 m (pc + 3) ls rest)) : W p l e R s m args below meth c H locs cells slots Q (F0 m pc ls st0) :=
  va_callv (va_runS S hM (csB S hl hR) (mpres hK hP) rfl hn hsz hst (lv_room hW) hdg hf) hS (fun q _ h => hA q h) hA (fun u t H1 locs1 ht _ hp hB _ _ hS1 => kk u H1 locs1 hp (by rw [← ht]; exact hB) hS1)
end KSV

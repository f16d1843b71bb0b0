-- the reference's layers
def frM (lf o i : Nat) : Nat → Bool
  | 0 => lf.testBit i
  | j + 1 => frM lf o i j && !(lf.testBit j && o.testBit (8 * j + i))
theorem frM_e {n o lf i : Nat} : frM lf o i n = frb n o lf i := by
  have key : ∀ m, frM lf o i m = (lf.testBit i && decide (∀ j, j < m → ¬ (lf.testBit j = true ∧ o.testBit (8 * j + i) = true))) := by
    intro m
    induction m with
    | zero => simp [frM]
    | succ m ih =>
      rw [frM, ih, Bool.eq_iff_iff]
      simp only [Bool.and_eq_true, decide_eq_true_eq, Bool.not_eq_true', Bool.and_eq_false_iff]
      constructor
      · rintro ⟨⟨a, b⟩, c⟩
        refine ⟨a, fun j hj q => ?_⟩
        by_cases e : j = m
        · subst e
          rcases c with c | c
          · rw [c] at q; cases q.1
          · rw [c] at q; cases q.2
        · exact b j (by omega) q
      · rintro ⟨a, b⟩
        refine ⟨⟨a, fun j hj => b j (by omega)⟩, ?_⟩
        have := b m (by omega)
        cases h1 : lf.testBit m with
        | false => exact Or.inl rfl
        | true =>
          cases h2 : o.testBit (8 * m + i) with
          | false => exact Or.inr rfl
          | true => exact absurd ⟨h1, h2⟩ this
  rw [key n]
  unfold frb
  congr 1
  have e : (tab n o i &&& lf = 0) ↔ ∀ j, j < n → ¬ (lf.testBit j = true ∧ o.testBit (8 * j + i) = true) := by
    constructor
    · intro h j hj q
      have h1 := congrArg (fun x : Nat => x.testBit j) h
      simp only [Nat.testBit_and, Nat.zero_testBit] at h1
      unfold tab at h1
      rw [mk_tb] at h1
      simp [hj, q.1, q.2] at h1
    · intro h
      apply Nat.eq_of_testBit_eq
      intro k
      rw [Nat.testBit_and, Nat.zero_testBit]
      unfold tab
      rw [mk_tb]
      by_cases hk : k < n
      · have := h k hk
        cases h1 : lf.testBit k with
        | false => simp
        | true =>
          cases h2 : o.testBit (8 * k + i) with
          | false => simp
          | true => exact absurd ⟨h1, h2⟩ this
      · simp [hk]
  exact (decide_eq_decide.mpr e.symm)
theorem frM_n {lf o i j : Nat} (h : frM lf o i j = false) : frM lf o i (j + 1) = false := by rw [frM, h]; rfl
theorem frM_a {lf o i j : Nat} (h : frM lf o i j = true) (h2 : ¬ (lf.testBit j = true ∧ o.testBit (8 * j + i) = true)) : frM lf o i (j + 1) = true := by
  rw [frM, h]
  cases h1 : lf.testBit j with
  | false => rfl
  | true =>
    cases h3 : o.testBit (8 * j + i) with
    | false => rfl
    | true => exact absurd ⟨h1, h3⟩ h2
theorem frM_b {lf o i j : Nat} (h1 : lf.testBit j = true) (h2 : o.testBit (8 * j + i) = true) : frM lf o i (j + 1) = false := by
  rw [frM, h1, h2]; simp
theorem fre_tb {n o lf k : Nat} : (fre n o lf).testBit k = (decide (k < n) && frb n o lf k) := mk_tb _ _ _
theorem fre_sub {n o lf k : Nat} (h : (fre n o lf).testBit k = true) : k < n ∧ lf.testBit k = true := by
  rw [fre_tb] at h
  simp only [Bool.and_eq_true, decide_eq_true_eq] at h
  refine ⟨h.1, ?_⟩
  have h2 := h.2
  unfold frb at h2
  simp only [Bool.and_eq_true] at h2
  exact h2.1
theorem lef_s (n o h L : Nat) : lef n o h (L + 1) = an (lef n o h L) (fre n o (lef n o h L)) := rfl
theorem an_0 (a : Nat) : an a 0 = a := by
  apply Nat.eq_of_testBit_eq
  intro k
  rw [an_tb, Nat.zero_testBit]; simp
theorem lef_st {n o h L : Nat} (h0 : fre n o (lef n o h L) = 0) : ∀ d, lef n o h (L + d) = lef n o h L
  | 0 => rfl
  | d + 1 => by
    rw [show L + (d + 1) = (L + d) + 1 by omega, lef_s, lef_st h0 d, h0, an_0]
theorem cnF_an {a b : Nat} (h : ∀ k, b.testBit k = true → a.testBit k = true) : ∀ m, cnF (fun k => (an a b).testBit k) m + cnF (fun k => b.testBit k) m = cnF (fun k => a.testBit k) m
  | 0 => rfl
  | m + 1 => by
    have ih := cnF_an h m
    rw [cnF, cnF, cnF, ← ih, an_tb]
    cases hb : b.testBit m with
    | false => cases ha : a.testBit m <;> simp <;> omega
    | true => rw [h m hb]; simp; omega
theorem cnF_pos {f : Nat → Bool} {k : Nat} (h : f k = true) : ∀ {m : Nat}, k < m → 0 < cnF f m
  | 0, hk => absurd hk (Nat.not_lt_zero _)
  | m + 1, hk => by
    rw [cnF]
    by_cases e : k = m
    · subst e; rw [if_pos h]; omega
    · have := cnF_pos h (m := m) (by omega); omega
theorem nz_bit {a : Nat} (h : a ≠ 0) : ∃ k, a.testBit k = true := by
  apply Classical.byContradiction
  intro q
  apply h
  apply Nat.eq_of_testBit_eq
  intro k
  rw [Nat.zero_testBit]
  cases e : a.testBit k with
  | false => rfl
  | true => exact absurd ⟨k, e⟩ q
theorem lef_dec {n o lf m : Nat} (hm : n ≤ m) (h : fre n o lf ≠ 0) : cnF (fun k => (an lf (fre n o lf)).testBit k) m < cnF (fun k => lf.testBit k) m := by
  have e := cnF_an (a := lf) (b := fre n o lf) (fun k hk => (fre_sub hk).2) m
  obtain ⟨k, hk⟩ := nz_bit h
  have := cnF_pos (f := fun k => (fre n o lf).testBit k) hk (m := m) (by have := (fre_sub hk).1; omega)
  omega
theorem lef_L {n o h : Nat} : ∀ L, (∀ l, l < L → fre n o (lef n o h l) ≠ 0) → L + cnF (fun k => (lef n o h L).testBit k) n ≤ n
  | 0, _ => by have := cnF_le (fun k => (lef n o h 0).testBit k) n; omega
  | L + 1, hall => by
    have ih := lef_L L (fun l hl => hall l (by omega))
    have := lef_dec (m := n) (Nat.le_refl _) (hall L (by omega))
    rw [lef_s]; omega
/-- the layers as far as L -/
def lyC (n o h L i : Nat) : Int32 := if fs (fun l => (fre n o (lef n o h l)).testBit i) L < L then nI (fs (fun l => (fre n o (lef n o h l)).testBit i) L) else -4
theorem lyC_0 (n o h i : Nat) : lyC n o h 0 i = -4 := if_neg (Nat.not_lt_zero _)
theorem lef_gone {n o h l i : Nat} (hb : (fre n o (lef n o h l)).testBit i = true) : ∀ d, (lef n o h (l + 1 + d)).testBit i = false
  | 0 => by rw [Nat.add_zero, lef_s, an_tb, hb]; simp
  | d + 1 => by
    rw [show l + 1 + (d + 1) = (l + 1 + d) + 1 by omega, lef_s, an_tb, lef_gone hb d]; rfl
theorem ly_first {n o h L i : Nat} (hb : (fre n o (lef n o h L)).testBit i = true) : ∀ l, l < L → (fre n o (lef n o h l)).testBit i = false := fun l hl => by
  cases q : (fre n o (lef n o h l)).testBit i with
  | false => rfl
  | true =>
    have h1 := lef_gone q (L - (l + 1))
    rw [show l + 1 + (L - (l + 1)) = L by omega] at h1
    rw [(fre_sub hb).2] at h1
    cases h1
theorem lyC_y {n o h L i : Nat} (hb : (fre n o (lef n o h L)).testBit i = true) : lyC n o h (L + 1) i = nI L := by
  have e := fs_yes (P := fun l => (fre n o (lef n o h l)).testBit i) (k := L) (ly_first hb) hb (m := L + 1) (by omega)
  unfold lyC
  rw [e, if_pos (by omega)]
theorem fs_ext {P : Nat → Bool} {k m : Nat} (hk : k ≤ m) (h : ∀ j, k ≤ j → j < m → P j = false) : (fs P k < k ↔ fs P m < m) ∧ (fs P k < k → fs P m = fs P k) := by
  by_cases q : fs P k < k
  · obtain ⟨h1, h2, h3⟩ := fs_ex (P := P) (m := k) ((fs_lt_iff).mp q)
    have e := fs_yes (P := P) (k := fs P k) h3 h2 (m := m) (by omega)
    exact ⟨⟨fun _ => by rw [e]; omega, fun _ => q⟩, fun _ => e⟩
  · have hno : ∀ j, j < m → P j = false := fun j hj => by
      by_cases c : j < k
      · cases z : P j with
        | false => rfl
        | true => exact absurd (fs_lt_iff.mpr ⟨j, c, z⟩) q
      · exact h j (by omega) hj
    have e := fs_no (P := P) (m := m) hno
    exact ⟨⟨fun z => absurd z q, fun z => by rw [e] at z; omega⟩, fun z => absurd z q⟩
theorem lyC_n {n o h L i : Nat} (hb : (fre n o (lef n o h L)).testBit i = false) : lyC n o h (L + 1) i = lyC n o h L i := by
  have e := fs_ext (P := fun l => (fre n o (lef n o h l)).testBit i) (k := L) (m := L + 1) (by omega) (fun j h1 h2 => by rw [show j = L by omega]; exact hb)
  unfold lyC
  by_cases q : fs (fun l => (fre n o (lef n o h l)).testBit i) L < L
  · rw [if_pos (e.1.mp q), if_pos q, e.2 q]
  · rw [if_neg (fun z => q (e.1.mpr z)), if_neg q]
theorem lyC_e {n o h L i : Nat} (hL : L ≤ n) (h0 : fre n o (lef n o h L) = 0) : lyC n o h L i = (if fs (fun l => (fre n o (lef n o h l)).testBit i) n < n then nI (fs (fun l => (fre n o (lef n o h l)).testBit i) n) else -4) := by
  have e := fs_ext (P := fun l => (fre n o (lef n o h l)).testBit i) (k := L) (m := n) hL (fun j h1 _ => by
    have := lef_st h0 (j - L)
    rw [show L + (j - L) = j by omega] at this
    show (fre n o (lef n o h j)).testBit i = false
    rw [this, h0, Nat.zero_testBit])
  unfold lyC
  by_cases q : fs (fun l => (fre n o (lef n o h l)).testBit i) L < L
  · rw [if_pos q, if_pos (e.1.mp q), e.2 q]
  · rw [if_neg q, if_neg (fun z => q (e.1.mpr z))]
theorem ly_fs {n o h L : Nat} (hL : L ≤ n) (hall : ∀ l, l < L → fre n o (lef n o h l) ≠ 0) (h0 : fre n o (lef n o h L) = 0) : fs (fun l => decide (fre n o (lef n o h l) = 0)) n = L := by
  by_cases q : L < n
  · exact fs_yes (P := fun l => decide (fre n o (lef n o h l) = 0)) (fun j hj => decide_eq_false (hall j hj)) (decide_eq_true h0) q
  · have e : L = n := by omega
    subst e
    exact fs_no (P := fun l => decide (fre L o (lef L o h l) = 0)) (fun j hj => decide_eq_false (hall j hj))
theorem ly_bd {n o h L : Nat} (hL : L ≤ n) (h0 : fre n o (lef n o h L) = 0) : lef n o h n = lef n o h L := by
  have := lef_st h0 (n - L)
  rwa [show L + (n - L) = n by omega] at this
theorem xs_e {n o i : Nat} (h8 : n ≤ 8) (hi : i < n) (ho : OB n o) : mk (fun j => o.testBit (8 * i + j) || o.testBit (8 * j + i)) n = (o / 2 ^ (8 * i) % 256 ||| tab n o i) := by
  apply Nat.eq_of_testBit_eq
  intro k
  unfold tab
  rw [mk_tb, Nat.testBit_or, mk_tb, show (256 : Nat) = 2 ^ 8 from rfl, Nat.testBit_mod_two_pow, Nat.testBit_div_two_pow, Nat.add_comm k]
  by_cases hk : k < n
  · have : k < 8 := by omega
    simp [hk, this]
  · by_cases h8k : k < 8
    · have : o.testBit (8 * i + k) = false := by
        cases q : o.testBit (8 * i + k) with
        | false => rfl
        | true => have := (ho.2 _ q).2; omega
      simp [hk, this]
    · simp [hk, h8k]


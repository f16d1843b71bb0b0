-- rows that are in both dances: by greedy places
def psn (V : Nat → Nat) (n : Nat) (r : Nat → Nat) : Nat → Nat
  | 0 => 0
  | c + 1 => pfr V n (r c) (psn V n r c) + 1
def ebd (V : Nat → Nat) (n : Nat) (r : Nat → Nat) (m : Nat) : Prop := ∀ c, c < m → pfr V n (r c) (psn V n r c) < n
def kyr (r : Nat → Nat) : Nat → Nat
  | 0 => 0
  | c + 1 => 4 * kyr r c + r c
theorem psn_congr {V r s : Nat → Nat} {n : Nat} : ∀ c, (∀ k, k < c → r k = s k) → psn V n r c = psn V n s c
  | 0, _ => rfl
  | c + 1, h => by
    show pfr V n (r c) (psn V n r c) + 1 = pfr V n (s c) (psn V n s c) + 1
    rw [psn_congr c (fun k hk => h k (by omega)), h c (by omega)]
theorem kyr_congr {r s : Nat → Nat} : ∀ c, (∀ k, k < c → r k = s k) → kyr r c = kyr s c
  | 0, _ => rfl
  | c + 1, h => by
    show 4 * kyr r c + r c = 4 * kyr s c + s c
    rw [kyr_congr c (fun k hk => h k (by omega)), h c (by omega)]
theorem ebd_congr {V r s : Nat → Nat} {n m : Nat} (h : ∀ k, k < m → r k = s k) (hr : ebd V n r m) : ebd V n s m := fun c hc => by
  have := hr c hc
  rw [psn_congr c (fun k hk => h k (by omega)), h c hc] at this
  exact this
theorem psn_le {V r : Nat → Nat} {n m : Nat} (h : ebd V n r m) : ∀ c, c ≤ m → psn V n r c ≤ n
  | 0, _ => Nat.zero_le _
  | c + 1, hc => by have := h c (by omega); show pfr V n (r c) (psn V n r c) + 1 ≤ n; omega
theorem pfr_at {V : Nat → Nat} {n f i : Nat} (hi : i ≤ n) (h : pfr V n f i < n) : V (pfr V n f i) = f ∧ i ≤ pfr V n f i := by
  have h1 := fsr_yes (P := fun k => decide (V k = f)) hi h
  have h2 := fsr_bd (fun k => decide (V k = f)) hi
  exact ⟨of_decide_eq_true h1, h2.1⟩
theorem pfr_lk {V : Nat → Nat} {n f i k : Nat} (hi : i ≤ k) (hk : k < n) (hV : V k = f) : pfr V n f i ≤ k := by
  rcases Nat.lt_or_ge k (pfr V n f i) with z | z
  · have h := fsr_no (P := fun k => decide (V k = f)) (m := n) (i := i) (by omega) k hi z
    rw [hV] at h
    simp at h
  · exact z
/-- a row in both is no longer than the longest -/
theorem lc_ge {V1 V2 r : Nat → Nat} {n1 n2 m : Nat} (h1 : ebd V1 n1 r m) (h2 : ebd V2 n2 r m) : ∀ d c, c + d = m → d ≤ lc V1 V2 n1 n2 (psn V1 n1 r c) (psn V2 n2 r c)
  | 0, _, _ => Nat.zero_le _
  | d + 1, c, e => by
    have ih := lc_ge h1 h2 d (c + 1) (by omega)
    have a1 := h1 c (by omega)
    have a2 := h2 c (by omega)
    have l1 := psn_le h1 c (by omega)
    have l2 := psn_le h2 c (by omega)
    have b1 := pfr_at l1 a1
    have b2 := pfr_at l2 a2
    have e1 := lc_eq (V1 := V1) (V2 := V2) a1 a2 (b1.1.trans b2.1.symm)
    have mo := lc_mono (V1 := V1) (V2 := V2) (n1 := n1) (n2 := n2) (psn V1 n1 r c) (psn V2 n2 r c) (pfr V1 n1 (r c) (psn V1 n1 r c) - psn V1 n1 r c) (pfr V2 n2 (r c) (psn V2 n2 r c) - psn V2 n2 r c)
    rw [show psn V1 n1 r c + (pfr V1 n1 (r c) (psn V1 n1 r c) - psn V1 n1 r c) = pfr V1 n1 (r c) (psn V1 n1 r c) by omega, show psn V2 n2 r c + (pfr V2 n2 (r c) (psn V2 n2 r c) - psn V2 n2 r c) = pfr V2 n2 (r c) (psn V2 n2 r c) by omega, e1] at mo
    have ih : d ≤ lc V1 V2 n1 n2 (pfr V1 n1 (r c) (psn V1 n1 r c) + 1) (pfr V2 n2 (r c) (psn V2 n2 r c) + 1) := ih
    omega
theorem sst_psn {V1 V2 : Nat → Nat} {n1 n2 : Nat} : ∀ c, sst V1 V2 n1 n2 c = (psn V1 n1 (sfg V1 V2 n1 n2) c, psn V2 n2 (sfg V1 V2 n1 n2) c)
  | 0 => rfl
  | c + 1 => by
    have ih := sst_psn (V1 := V1) (V2 := V2) (n1 := n1) (n2 := n2) c
    have e1 : (sst V1 V2 n1 n2 c).1 = psn V1 n1 (sfg V1 V2 n1 n2) c := by rw [ih]
    have e2 : (sst V1 V2 n1 n2 c).2 = psn V2 n2 (sfg V1 V2 n1 n2) c := by rw [ih]
    show (pfr V1 n1 (sfg V1 V2 n1 n2 c) (sst V1 V2 n1 n2 c).1 + 1, pfr V2 n2 (sfg V1 V2 n1 n2 c) (sst V1 V2 n1 n2 c).2 + 1) = (pfr V1 n1 (sfg V1 V2 n1 n2 c) (psn V1 n1 (sfg V1 V2 n1 n2) c) + 1, pfr V2 n2 (sfg V1 V2 n1 n2 c) (psn V2 n2 (sfg V1 V2 n1 n2) c) + 1)
    rw [e1, e2]
theorem sfg_ebd {V1 V2 : Nat → Nat} {n1 n2 : Nat} (h8 : ∀ k, V1 k < 8) : ebd V1 n1 (sfg V1 V2 n1 n2) (lc V1 V2 n1 n2 0 0) ∧ ebd V2 n2 (sfg V1 V2 n1 n2) (lc V1 V2 n1 n2 0 0) := by
  refine ⟨fun c hc => ?_, fun c hc => ?_⟩
  · have := (sfg_pl (n1 := n1) (n2 := n2) (V2 := V2) h8 hc).1
    rw [sst_psn] at this
    exact this
  · have := (sfg_pl (n1 := n1) (n2 := n2) (V2 := V2) h8 hc).2
    rw [sst_psn] at this
    exact this
/-- the longest row that is shown is the least -/
theorem sfg_least {V1 V2 r : Nat → Nat} {n1 n2 : Nat} (h8 : ∀ k, V1 k < 8) (h1 : ebd V1 n1 r (lc V1 V2 n1 n2 0 0)) (h2 : ebd V2 n2 r (lc V1 V2 n1 n2 0 0)) {c : Nat} (hc : c < lc V1 V2 n1 n2 0 0) (he : ∀ k, k < c → r k = sfg V1 V2 n1 n2 k) : sfg V1 V2 n1 n2 c ≤ r c := by
  rcases Nat.lt_or_ge (r c) 8 with r8 | r8
  · have hok := sst_ok (V1 := V1) (V2 := V2) (n1 := n1) (n2 := n2) h8 c (by omega)
    rw [sst_psn] at hok
    dsimp only at hok
    have p1 := psn_congr (V := V1) (n := n1) c he
    have p2 := psn_congr (V := V2) (n := n2) c he
    have a1 := h1 c hc
    have a2 := h2 c hc
    rw [p1] at a1
    rw [p2] at a2
    have b1 := pfr_at hok.1.1 a1
    have b2 := pfr_at hok.1.2 a2
    have e1 := lc_eq (V1 := V1) (V2 := V2) a1 a2 (b1.1.trans b2.1.symm)
    have mo := lc_mono (V1 := V1) (V2 := V2) (n1 := n1) (n2 := n2) (psn V1 n1 (sfg V1 V2 n1 n2) c) (psn V2 n2 (sfg V1 V2 n1 n2) c) (pfr V1 n1 (r c) (psn V1 n1 (sfg V1 V2 n1 n2) c) - psn V1 n1 (sfg V1 V2 n1 n2) c) (pfr V2 n2 (r c) (psn V2 n2 (sfg V1 V2 n1 n2) c) - psn V2 n2 (sfg V1 V2 n1 n2) c)
    rw [show psn V1 n1 (sfg V1 V2 n1 n2) c + (pfr V1 n1 (r c) (psn V1 n1 (sfg V1 V2 n1 n2) c) - psn V1 n1 (sfg V1 V2 n1 n2) c) = pfr V1 n1 (r c) (psn V1 n1 (sfg V1 V2 n1 n2) c) by omega, show psn V2 n2 (sfg V1 V2 n1 n2) c + (pfr V2 n2 (r c) (psn V2 n2 (sfg V1 V2 n1 n2) c) - psn V2 n2 (sfg V1 V2 n1 n2) c) = pfr V2 n2 (r c) (psn V2 n2 (sfg V1 V2 n1 n2) c) by omega, e1] at mo
    have g := lc_ge h1 h2 (lc V1 V2 n1 n2 0 0 - (c + 1)) (c + 1) (by omega)
    have g : lc V1 V2 n1 n2 0 0 - (c + 1) ≤ lc V1 V2 n1 n2 (pfr V1 n1 (r c) (psn V1 n1 r c) + 1) (pfr V2 n2 (r c) (psn V2 n2 r c) + 1) := g
    rw [p1, p2] at g
    have q3 := hok.2
    have hP : lnP V1 V2 n1 n2 (psn V1 n1 (sfg V1 V2 n1 n2) c) (psn V2 n2 (sfg V1 V2 n1 n2) c) (lc V1 V2 n1 n2 0 0 - c) (r c) = true := lnP_t a1 a2 (by omega)
    have hx := fs_ex (m := 8) ⟨r c, r8, hP⟩
    have es : sfg V1 V2 n1 n2 c = fs (lnP V1 V2 n1 n2 (psn V1 n1 (sfg V1 V2 n1 n2) c) (psn V2 n2 (sfg V1 V2 n1 n2) c) (lc V1 V2 n1 n2 0 0 - c)) 8 := by
      show fs (lnP V1 V2 n1 n2 (sst V1 V2 n1 n2 c).1 (sst V1 V2 n1 n2 c).2 (lc V1 V2 n1 n2 0 0 - c)) 8 = _
      rw [sst_psn]
    rcases Nat.lt_or_ge (r c) (sfg V1 V2 n1 n2 c) with z | z
    · rw [es] at z
      have := hx.2.2 _ z
      rw [hP] at this
      cases this
    · exact z
  · have := (sfg_ok (V2 := V2) (n1 := n1) (n2 := n2) h8 hc).1
    omega
theorem sfg_4 {V1 V2 : Nat → Nat} {n1 n2 : Nat} (h4 : ∀ k, V1 k < 4) {c : Nat} (hc : c < lc V1 V2 n1 n2 0 0) : sfg V1 V2 n1 n2 c < 4 := by
  have h8 : ∀ k, V1 k < 8 := fun k => Nat.lt_of_lt_of_le (h4 k) (by omega)
  have h := (sfg_ebd (V2 := V2) (n1 := n1) (n2 := n2) h8).1
  have := (pfr_at (psn_le h c (by omega)) (h c hc)).1
  rw [← this]; exact h4 _
theorem key_le {s r : Nat → Nat} {L : Nat} (h4 : ∀ c, c < L → s c < 4) (h : ∀ c, c < L → (∀ k, k < c → r k = s k) → s c ≤ r c) : ∀ m, m ≤ L → (kyr s m = kyr r m ∧ ∀ k, k < m → r k = s k) ∨ kyr s m < kyr r m
  | 0, _ => Or.inl ⟨rfl, fun k hk => absurd hk (Nat.not_lt_zero _)⟩
  | m + 1, hm => by
    have z4 := h4 m (by omega)
    show (4 * kyr s m + s m = 4 * kyr r m + r m ∧ _) ∨ 4 * kyr s m + s m < 4 * kyr r m + r m
    rcases key_le h4 h m (by omega) with ⟨e, he⟩ | q
    · have hl := h m (by omega) he
      rcases Nat.lt_or_ge (s m) (r m) with y | y
      · exact Or.inr (by omega)
      · refine Or.inl ⟨by omega, fun k hk => ?_⟩
        by_cases ek : k = m
        · subst ek; omega
        · exact he k (by omega)
    · exact Or.inr (by omega)
-- the search by all choices
def inn (V1 V2 : Nat → Nat) (n2 code : Nat) : Nat → Nat × Nat × Nat × Bool
  | 0 => (0, 0, 0, true)
  | k + 1 => if (inn V1 V2 n2 code k).2.2.2 = true ∧ code.testBit k = true then ((inn V1 V2 n2 code k).1 + 1, pfr V2 n2 (V1 k) (inn V1 V2 n2 code k).2.1 + 1, 4 * (inn V1 V2 n2 code k).2.2.1 + V1 k, decide (pfr V2 n2 (V1 k) (inn V1 V2 n2 code k).2.1 < n2)) else inn V1 V2 n2 code k
def outK (V1 V2 : Nat → Nat) (n1 n2 : Nat) : Nat → Nat × Nat
  | 0 => (0, 0)
  | c + 1 => if (inn V1 V2 n2 c n1).2.2.2 = false ∨ (inn V1 V2 n2 c n1).1 < (outK V1 V2 n1 n2 c).1 ∨ ((inn V1 V2 n2 c n1).1 = (outK V1 V2 n1 n2 c).1 ∧ (outK V1 V2 n1 n2 c).2 ≤ (inn V1 V2 n2 c n1).2.2.1 ∧ 0 < (inn V1 V2 n2 c n1).1) then outK V1 V2 n1 n2 c else ((inn V1 V2 n2 c n1).1, (inn V1 V2 n2 c n1).2.2.1)
theorem inn_row {V1 V2 : Nat → Nat} {n1 n2 code : Nat} : ∀ k, k ≤ n1 → (inn V1 V2 n2 code k).2.2.2 = true → ∃ r : Nat → Nat, ebd V1 n1 r (inn V1 V2 n2 code k).1 ∧ psn V1 n1 r (inn V1 V2 n2 code k).1 ≤ k ∧ ebd V2 n2 r (inn V1 V2 n2 code k).1 ∧ (inn V1 V2 n2 code k).2.1 = psn V2 n2 r (inn V1 V2 n2 code k).1 ∧ (inn V1 V2 n2 code k).2.2.1 = kyr r (inn V1 V2 n2 code k).1
  | 0, _, _ => ⟨fun _ => 0, fun c hc => absurd hc (Nat.not_lt_zero _), Nat.le_refl _, fun c hc => absurd hc (Nat.not_lt_zero _), rfl, rfl⟩
  | k + 1, hk, h => by
    rw [inn] at h ⊢
    by_cases q : (inn V1 V2 n2 code k).2.2.2 = true ∧ code.testBit k = true
    · rw [if_pos q] at h ⊢
      obtain ⟨r, h1, h2, h3, h4, h5⟩ := inn_row (V1 := V1) (V2 := V2) (n1 := n1) (n2 := n2) (code := code) k (by omega) q.1
      obtain ⟨m, hm⟩ : ∃ m, (inn V1 V2 n2 code k).1 = m := ⟨_, rfl⟩
      dsimp only at h ⊢
      rw [hm] at h1 h2 h3 h4 h5 ⊢
      rw [h4] at h ⊢
      rw [h5]
      have hlt := of_decide_eq_true h
      have ce : ∀ j, j < m → r j = va_up r m (V1 k) j := fun j hj => (va_up_ne _ _ (by omega)).symm
      have e0 : va_up r m (V1 k) m = V1 k := va_up_self ..
      have c1 := psn_congr (V := V1) (n := n1) m ce
      have c2 := psn_congr (V := V2) (n := n2) m ce
      have c3 := kyr_congr m ce
      have pl : pfr V1 n1 (V1 k) (psn V1 n1 r m) ≤ k := pfr_lk h2 (by omega) rfl
      refine ⟨va_up r m (V1 k), fun c hc => ?_, ?_, fun c hc => ?_, ?_, ?_⟩
      · by_cases e : c = m
        · subst e; rw [e0, ← c1]; omega
        · exact ebd_congr ce h1 c (by omega)
      · show pfr V1 n1 (va_up r m (V1 k) m) (psn V1 n1 (va_up r m (V1 k)) m) + 1 ≤ k + 1
        rw [e0, ← c1]; omega
      · by_cases e : c = m
        · subst e; rw [e0, ← c2]; exact hlt
        · exact ebd_congr ce h3 c (by omega)
      · show _ = pfr V2 n2 (va_up r m (V1 k) m) (psn V2 n2 (va_up r m (V1 k)) m) + 1
        rw [e0, ← c2]
      · show _ = 4 * kyr (va_up r m (V1 k)) m + va_up r m (V1 k) m
        rw [e0, ← c3]
    · rw [if_neg q] at h ⊢
      obtain ⟨r, h1, h2, h3⟩ := inn_row (V1 := V1) (V2 := V2) (n1 := n1) (n2 := n2) (code := code) k (by omega) h
      exact ⟨r, h1, by omega, h3⟩
/-- what stands at the end is of a row in both -/
theorem out_row {V1 V2 : Nat → Nat} {n1 n2 : Nat} : ∀ c, ∃ r : Nat → Nat, ebd V1 n1 r (outK V1 V2 n1 n2 c).1 ∧ ebd V2 n2 r (outK V1 V2 n1 n2 c).1 ∧ (outK V1 V2 n1 n2 c).2 = kyr r (outK V1 V2 n1 n2 c).1
  | 0 => ⟨fun _ => 0, fun c hc => absurd hc (Nat.not_lt_zero _), fun c hc => absurd hc (Nat.not_lt_zero _), rfl⟩
  | c + 1 => by
    rw [outK]
    split
    · exact out_row c
    · rename_i q
      have hi : (inn V1 V2 n2 c n1).2.2.2 = true := by
        cases z : (inn V1 V2 n2 c n1).2.2.2
        · exact absurd (Or.inl z) q
        · rfl
      obtain ⟨r, h1, -, h3, -, h5⟩ := inn_row (V1 := V1) (V2 := V2) (n1 := n1) (n2 := n2) (code := c) n1 (Nat.le_refl _) hi
      exact ⟨r, h1, h3, h5⟩
/-- no choice that was looked at is better -/
theorem out_best {V1 V2 : Nat → Nat} {n1 n2 : Nat} : ∀ c d, d < c → (inn V1 V2 n2 d n1).2.2.2 = true → (inn V1 V2 n2 d n1).1 < (outK V1 V2 n1 n2 c).1 ∨ ((inn V1 V2 n2 d n1).1 = (outK V1 V2 n1 n2 c).1 ∧ (outK V1 V2 n1 n2 c).2 ≤ (inn V1 V2 n2 d n1).2.2.1)
  | 0, d, hd, _ => absurd hd (Nat.not_lt_zero _)
  | c + 1, d, hd, hi => by
    rw [outK]
    by_cases e : d = c
    · subst e
      split
      · rename_i q
        rcases q with q | q | q
        · rw [hi] at q; cases q
        · exact Or.inl q
        · exact Or.inr ⟨q.1, q.2.1⟩
      · exact Or.inr ⟨rfl, Nat.le_refl _⟩
    · have ih := out_best (V1 := V1) (V2 := V2) (n1 := n1) (n2 := n2) c d (by omega) hi
      split
      · exact ih
      · rename_i q
        have q2 : ¬ (inn V1 V2 n2 c n1).1 < (outK V1 V2 n1 n2 c).1 := fun z => q (Or.inr (Or.inl z))
        have q3 : ¬ ((inn V1 V2 n2 c n1).1 = (outK V1 V2 n1 n2 c).1 ∧ (outK V1 V2 n1 n2 c).2 ≤ (inn V1 V2 n2 c n1).2.2.1 ∧ 0 < (inn V1 V2 n2 c n1).1) := fun z => q (Or.inr (Or.inr z))
        show (inn V1 V2 n2 d n1).1 < (inn V1 V2 n2 c n1).1 ∨ ((inn V1 V2 n2 d n1).1 = (inn V1 V2 n2 c n1).1 ∧ (inn V1 V2 n2 c n1).2.2.1 ≤ (inn V1 V2 n2 d n1).2.2.1)
        by_cases hz : (inn V1 V2 n2 c n1).1 = (outK V1 V2 n1 n2 c).1
        · by_cases h0 : 0 < (inn V1 V2 n2 c n1).1
          · have : ¬ (outK V1 V2 n1 n2 c).2 ≤ (inn V1 V2 n2 c n1).2.2.1 := fun z => q3 ⟨hz, z, h0⟩
            rcases ih with ih | ih
            · exact Or.inl (by omega)
            · exact Or.inr ⟨by omega, by omega⟩
          · rcases ih with ih | ih
            · exact Or.inl (by omega)
            · have hii : (inn V1 V2 n2 c n1).2.2.2 = true := by
                cases z : (inn V1 V2 n2 c n1).2.2.2
                · exact absurd (Or.inl z) q
                · rfl
              obtain ⟨r, -, -, -, -, h5⟩ := inn_row (V1 := V1) (V2 := V2) (n1 := n1) (n2 := n2) (code := c) n1 (Nat.le_refl _) hii
              have h5' : (inn V1 V2 n2 c n1).2.2.1 = 0 := by rw [h5, show (inn V1 V2 n2 c n1).1 = 0 by omega]; rfl
              exact Or.inr ⟨by omega, by omega⟩
        · rcases ih with ih | ih
          · exact Or.inl (by omega)
          · exact Or.inl (by omega)
/-- the choice of a row -/
theorem inn_code {V1 V2 s : Nat → Nat} {n1 n2 L code : Nat} (h1 : ebd V1 n1 s L) (h2 : ebd V2 n2 s L) (hcode : ∀ k, k < n1 → (code.testBit k = true ↔ ∃ c, c < L ∧ pfr V1 n1 (s c) (psn V1 n1 s c) = k)) : ∀ k, k ≤ n1 → ∃ c, c ≤ L ∧ inn V1 V2 n2 code k = (c, psn V2 n2 s c, kyr s c, true) ∧ psn V1 n1 s c ≤ k ∧ (c < L → k ≤ pfr V1 n1 (s c) (psn V1 n1 s c))
  | 0, _ => ⟨0, Nat.zero_le _, rfl, Nat.zero_le _, fun _ => Nat.zero_le _⟩
  | k + 1, hk => by
    obtain ⟨c, hc, e, p1, p2⟩ := inn_code h1 h2 hcode k (by omega)
    have mono : ∀ d, c + d < L → pfr V1 n1 (s c) (psn V1 n1 s c) + d ≤ pfr V1 n1 (s (c + d)) (psn V1 n1 s (c + d)) := by
      intro d
      induction d with
      | zero => intro _; exact Nat.le_refl _
      | succ d ih =>
        intro hd
        have ih := ih (by omega)
        have q := (pfr_at (psn_le h1 (c + (d + 1)) (by omega)) (h1 (c + (d + 1)) hd)).2
        have q2 : psn V1 n1 s (c + (d + 1)) = pfr V1 n1 (s (c + d)) (psn V1 n1 s (c + d)) + 1 := rfl
        omega
    have mono0 : ∀ d, d < c → pfr V1 n1 (s d) (psn V1 n1 s d) < k := by
      intro d hd
      have key : ∀ x, d + 1 + x ≤ c → pfr V1 n1 (s d) (psn V1 n1 s d) < psn V1 n1 s (d + 1 + x) := by
        intro x
        induction x with
        | zero => intro _; show _ < pfr V1 n1 (s d) (psn V1 n1 s d) + 1; omega
        | succ x ih =>
          intro hx
          have ih := ih (by omega)
          have q := (pfr_at (psn_le h1 (d + 1 + x) (by omega)) (h1 (d + 1 + x) (by omega))).2
          show _ < pfr V1 n1 (s (d + 1 + x)) (psn V1 n1 s (d + 1 + x)) + 1
          omega
      have := key (c - (d + 1)) (by omega)
      rw [show d + 1 + (c - (d + 1)) = c by omega] at this
      omega
    by_cases hb : code.testBit k = true
    · obtain ⟨d, hd, ed⟩ := (hcode k (by omega)).mp hb
      have ec : d = c := by
        rcases Nat.lt_or_ge d c with z | z
        · have := mono0 d z; omega
        · rcases Nat.lt_or_ge c d with y | y
          · have := mono (d - c) (by omega)
            rw [show c + (d - c) = d by omega] at this
            have := p2 (by omega)
            omega
          · omega
      subst ec
      have hv := (pfr_at (psn_le h1 d (by omega)) (h1 d hd)).1
      rw [ed] at hv
      refine ⟨d + 1, by omega, ?_, ?_, fun h => ?_⟩
      · rw [inn, e]
        dsimp only
        rw [if_pos ⟨rfl, hb⟩, hv]
        have := h2 d hd
        rw [decide_eq_true this]
        rfl
      · show pfr V1 n1 (s d) (psn V1 n1 s d) + 1 ≤ k + 1
        omega
      · have := mono 1 (by omega)
        omega
    · refine ⟨c, hc, ?_, by omega, fun h => ?_⟩
      · rw [inn, e]
        dsimp only
        rw [if_neg (fun z => hb z.2)]
      · have := p2 h
        rcases Nat.lt_or_ge k (pfr V1 n1 (s c) (psn V1 n1 s c)) with z | z
        · exact z
        · exact absurd ((hcode k (by omega)).mpr ⟨c, h, by omega⟩) hb
theorem out_end {V1 V2 : Nat → Nat} {n1 n2 : Nat} (h4 : ∀ k, V1 k < 4) : outK V1 V2 n1 n2 (2 ^ n1) = (lc V1 V2 n1 n2 0 0, kyr (sfg V1 V2 n1 n2) (lc V1 V2 n1 n2 0 0)) := by
  classical
  have h8 : ∀ k, V1 k < 8 := fun k => Nat.lt_of_lt_of_le (h4 k) (by omega)
  obtain ⟨e1, e2⟩ := sfg_ebd (V2 := V2) (n1 := n1) (n2 := n2) h8
  obtain ⟨code, hcl, hcode⟩ : ∃ code, code < 2 ^ n1 ∧ ∀ k, k < n1 → (code.testBit k = true ↔ ∃ c, c < lc V1 V2 n1 n2 0 0 ∧ pfr V1 n1 (sfg V1 V2 n1 n2 c) (psn V1 n1 (sfg V1 V2 n1 n2) c) = k) := by
    refine ⟨mk (fun k => decide (∃ c, c < lc V1 V2 n1 n2 0 0 ∧ pfr V1 n1 (sfg V1 V2 n1 n2 c) (psn V1 n1 (sfg V1 V2 n1 n2) c) = k)) n1, mk_lt _ _, fun k hk => ?_⟩
    rw [mk_tb, decide_eq_true hk, Bool.true_and, decide_eq_true_eq]
  obtain ⟨c, hc, e, p1, p2⟩ := inn_code e1 e2 hcode n1 (Nat.le_refl _)
  have ec : c = lc V1 V2 n1 n2 0 0 := by
    rcases Nat.lt_or_ge c (lc V1 V2 n1 n2 0 0) with z | z
    · have := p2 z
      have := e1 c z
      omega
    · omega
  subst ec
  obtain ⟨r, r1, r2, r3⟩ := out_row (V1 := V1) (V2 := V2) (n1 := n1) (n2 := n2) (2 ^ n1)
  have hb := out_best (V1 := V1) (V2 := V2) (n1 := n1) (n2 := n2) (2 ^ n1) code hcl (by rw [e])
  rw [e] at hb
  dsimp only at hb
  have hle := lc_ge r1 r2 (outK V1 V2 n1 n2 (2 ^ n1)).1 0 (Nat.zero_add _)
  have hle : (outK V1 V2 n1 n2 (2 ^ n1)).1 ≤ lc V1 V2 n1 n2 0 0 := hle
  obtain ⟨X, hX⟩ : ∃ X, outK V1 V2 n1 n2 (2 ^ n1) = X := ⟨_, rfl⟩
  rw [hX] at hb hle r1 r2 r3 ⊢
  obtain ⟨x1, x2⟩ := X
  dsimp only at hb hle r1 r2 r3
  have ex : x1 = lc V1 V2 n1 n2 0 0 := by omega
  subst ex
  have hk := key_le (s := sfg V1 V2 n1 n2) (r := r) (fun c hc => sfg_4 h4 hc) (fun c hc he => sfg_least h8 r1 r2 hc he) _ (Nat.le_refl _)
  have : x2 = kyr (sfg V1 V2 n1 n2) (lc V1 V2 n1 n2 0 0) := by
    rcases hk with ⟨q, -⟩ | q <;> omega
  rw [this]
-- which of the two comes first is no matter
theorem lcR_sym (V1 V2 : Nat → Nat) (n1 n2 : Nat) : ∀ m a b, a + b ≤ m → lcR V1 V2 n1 n2 a b = lcR V2 V1 n2 n1 b a
  | m, 0, b, _ => by cases b <;> simp only [lcR]
  | m, a + 1, 0, _ => by simp only [lcR]
  | 0, a + 1, b + 1, h => by omega
  | m + 1, a + 1, b + 1, h => by
    rw [lcR, lcR, lcR_sym V1 V2 n1 n2 m a b (by omega), lcR_sym V1 V2 n1 n2 m a (b + 1) (by omega), lcR_sym V1 V2 n1 n2 m (a + 1) b (by omega)]
    by_cases q : V1 (n1 - (a + 1)) = V2 (n2 - (b + 1))
    · rw [if_pos q, if_pos q.symm]
    · rw [if_neg q, if_neg (fun z => q z.symm), Nat.max_comm]
theorem lc_sym {V1 V2 : Nat → Nat} {n1 n2 i j : Nat} : lc V1 V2 n1 n2 i j = lc V2 V1 n2 n1 j i := lcR_sym V1 V2 n1 n2 _ _ _ (Nat.le_refl _)
theorem lnP_sym {V1 V2 : Nat → Nat} {n1 n2 i j len f : Nat} : lnP V1 V2 n1 n2 i j len f = lnP V2 V1 n2 n1 j i len f := by
  unfold lnP
  rw [lc_sym]
  cases decide (pfr V1 n1 f i < n1) <;> cases decide (pfr V2 n2 f j < n2) <;> rfl
theorem sst_sym {V1 V2 : Nat → Nat} {n1 n2 : Nat} : ∀ c, (sst V1 V2 n1 n2 c).1 = (sst V2 V1 n2 n1 c).2 ∧ (sst V1 V2 n1 n2 c).2 = (sst V2 V1 n2 n1 c).1
  | 0 => ⟨rfl, rfl⟩
  | c + 1 => by
    have ih := sst_sym (V1 := V1) (V2 := V2) (n1 := n1) (n2 := n2) c
    have e : lnf V1 V2 n1 n2 (sst V1 V2 n1 n2 c).1 (sst V1 V2 n1 n2 c).2 (lc V1 V2 n1 n2 0 0 - c) = lnf V2 V1 n2 n1 (sst V2 V1 n2 n1 c).1 (sst V2 V1 n2 n1 c).2 (lc V2 V1 n2 n1 0 0 - c) := by
      unfold lnf
      rw [ih.1, ih.2, lc_sym (i := 0) (j := 0)]
      exact congrArg (fun P => fs P 8) (funext fun f => lnP_sym)
    show pfr V1 n1 (lnf V1 V2 n1 n2 _ _ _) _ + 1 = pfr V1 n1 (lnf V2 V1 n2 n1 _ _ _) _ + 1 ∧ pfr V2 n2 (lnf V1 V2 n1 n2 _ _ _) _ + 1 = pfr V2 n2 (lnf V2 V1 n2 n1 _ _ _) _ + 1
    rw [e, ih.1, ih.2]
    exact ⟨rfl, rfl⟩
theorem sfg_sym {V1 V2 : Nat → Nat} {n1 n2 c : Nat} : sfg V1 V2 n1 n2 c = sfg V2 V1 n2 n1 c := by
  have ih := sst_sym (V1 := V1) (V2 := V2) (n1 := n1) (n2 := n2) c
  unfold sfg lnf
  rw [ih.1, ih.2, lc_sym (i := 0) (j := 0)]
  exact congrArg (fun P => fs P 8) (funext fun f => lnP_sym)
-- one with itself
theorem lc_self {V : Nat → Nat} {n : Nat} : ∀ d i, i + d = n → lc V V n n i i = d
  | 0, i, h => lc_out (by omega)
  | d + 1, i, h => by rw [lc_eq (by omega) (by omega) rfl, lc_self d (i + 1) (by omega)]
theorem sfg_sf {V : Nat → Nat} {n : Nat} (h8 : ∀ k, V k < 8) {c : Nat} (hs : sst V V n n c = (c, c)) (hlt : c < n) : sfg V V n n c = V c := by
  have h0 := lc_self (V := V) (n := n) n 0 (by omega)
  have hok := (sfg_ok (V2 := V) (n1 := n) (n2 := n) h8 (c := c) (by omega)).2
  rw [hs, h0] at hok
  dsimp only at hok
  unfold lnP at hok
  simp only [Bool.and_eq_true, decide_eq_true_eq] at hok
  obtain ⟨q1, -, q3⟩ := hok
  have b := pfr_at (by omega) q1
  have l1 := lc_self (V := V) (n := n) (n - (pfr V n (sfg V V n n c) c + 1)) (pfr V n (sfg V V n n c) c + 1) (by omega)
  rw [l1] at q3
  have : pfr V n (sfg V V n n c) c = c := by omega
  rw [this] at b
  exact b.1.symm
theorem sst_self {V : Nat → Nat} {n : Nat} (h8 : ∀ k, V k < 8) : ∀ c, c ≤ n → sst V V n n c = (c, c)
  | 0, _ => rfl
  | c + 1, hc => by
    have ih := sst_self (V := V) (n := n) h8 c (by omega)
    have e := sfg_sf h8 ih (by omega)
    have e1 : (sst V V n n c).1 = c := by rw [ih]
    have e2 : (sst V V n n c).2 = c := by rw [ih]
    show (pfr V n (sfg V V n n c) (sst V V n n c).1 + 1, pfr V n (sfg V V n n c) (sst V V n n c).2 + 1) = _
    rw [e, e1, e2]
    have p1 : pfr V n (V c) c ≤ c := pfr_lk (Nat.le_refl _) (by omega) rfl
    have p2 : c ≤ pfr V n (V c) c := (fsr_bd (fun k => decide (V k = V c)) (m := n) (i := c) (by omega)).1
    rw [show pfr V n (V c) c = c by omega]
theorem sfg_self {V : Nat → Nat} {n : Nat} (h8 : ∀ k, V k < 8) {c : Nat} (hc : c < n) : sfg V V n n c = V c := sfg_sf h8 (sst_self h8 c (by omega)) hc

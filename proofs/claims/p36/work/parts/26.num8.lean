/-- a counter that goes down to -1 -/
def dI (c : Nat) : Int32 := nI c + (-1)
theorem dI_s (i : Nat) : dI (i + 1) = nI i := pk_m1 i
theorem dI_pos {c : Nat} {z : Int32} (hz : z = dI c) (h : ¬ z < 0) : ∃ i, c = i + 1 := by
  cases c with
  | zero => exact absurd (show z < 0 by rw [hz]; decide) h
  | succ i => exact ⟨i, rfl⟩
theorem dI_neg {c : Nat} {z : Int32} (hc : c < 2 ^ 31) (hz : z = dI c) (h : z < 0) : c = 0 := by
  cases c with
  | zero => rfl
  | succ i => rw [hz, dI_s] at h; exact absurd h (nI_pos (by omega))
/-- the longest row in both, from two places on, so far from the ends -/
def lcR (V1 V2 : Nat → Nat) (n1 n2 : Nat) : Nat → Nat → Nat
  | 0, _ => 0
  | _ + 1, 0 => 0
  | a + 1, b + 1 => if V1 (n1 - (a + 1)) = V2 (n2 - (b + 1)) then lcR V1 V2 n1 n2 a b + 1 else max (lcR V1 V2 n1 n2 a (b + 1)) (lcR V1 V2 n1 n2 (a + 1) b)
termination_by a b => a + b
def lc (V1 V2 : Nat → Nat) (n1 n2 i j : Nat) : Nat := lcR V1 V2 n1 n2 (n1 - i) (n2 - j)
theorem lc_out {V1 V2 : Nat → Nat} {n1 n2 i j : Nat} (h : n1 ≤ i ∨ n2 ≤ j) : lc V1 V2 n1 n2 i j = 0 := by
  unfold lc
  rcases h with h | h
  · rw [show n1 - i = 0 by omega, lcR]
  · rw [show n2 - j = 0 by omega]
    cases n1 - i <;> rw [lcR]
theorem lc_eq {V1 V2 : Nat → Nat} {n1 n2 i j : Nat} (hi : i < n1) (hj : j < n2) (h : V1 i = V2 j) : lc V1 V2 n1 n2 i j = lc V1 V2 n1 n2 (i + 1) (j + 1) + 1 := by
  unfold lc
  obtain ⟨a, ha⟩ : ∃ a, n1 - i = a + 1 := ⟨n1 - i - 1, by omega⟩
  obtain ⟨b, hb⟩ : ∃ b, n2 - j = b + 1 := ⟨n2 - j - 1, by omega⟩
  rw [ha, hb, show n1 - (i + 1) = a by omega, show n2 - (j + 1) = b by omega, lcR, show n1 - (a + 1) = i by omega, show n2 - (b + 1) = j by omega, if_pos h]
theorem lc_ne {V1 V2 : Nat → Nat} {n1 n2 i j : Nat} (hi : i < n1) (hj : j < n2) (h : ¬ V1 i = V2 j) : lc V1 V2 n1 n2 i j = max (lc V1 V2 n1 n2 (i + 1) j) (lc V1 V2 n1 n2 i (j + 1)) := by
  unfold lc
  obtain ⟨a, ha⟩ : ∃ a, n1 - i = a + 1 := ⟨n1 - i - 1, by omega⟩
  obtain ⟨b, hb⟩ : ∃ b, n2 - j = b + 1 := ⟨n2 - j - 1, by omega⟩
  rw [ha, hb, show n1 - (i + 1) = a by omega, show n2 - (j + 1) = b by omega, lcR, show n1 - (a + 1) = i by omega, show n2 - (b + 1) = j by omega, if_neg h]
theorem lc_le {V1 V2 : Nat → Nat} {n1 n2 : Nat} : ∀ (d i j : Nat), (n1 - i) + (n2 - j) ≤ d → lc V1 V2 n1 n2 i j ≤ n1 - i := by
  intro d
  induction d with
  | zero => intro i j h; rw [lc_out (Or.inl (by omega))]; omega
  | succ d ih =>
    intro i j h
    by_cases h1 : i < n1 ∧ j < n2
    · by_cases e : V1 i = V2 j
      · rw [lc_eq h1.1 h1.2 e]
        have := ih (i + 1) (j + 1) (by omega)
        omega
      · rw [lc_ne h1.1 h1.2 e]
        have a := ih (i + 1) j (by omega)
        have b := ih i (j + 1) (by omega)
        omega
    · rw [lc_out (by omega)]; omega
theorem lc_le' {V1 V2 : Nat → Nat} {n1 n2 i j : Nat} : lc V1 V2 n1 n2 i j ≤ n1 - i := lc_le _ i j (Nat.le_refl _)
/-- one place more costs at most one -/
theorem lc_step {V1 V2 : Nat → Nat} {n1 n2 : Nat} : ∀ (d i j : Nat), (n1 - i) + (n2 - j) ≤ d → (lc V1 V2 n1 n2 (i + 1) j ≤ lc V1 V2 n1 n2 i j ∧ lc V1 V2 n1 n2 i j ≤ lc V1 V2 n1 n2 (i + 1) j + 1) ∧ (lc V1 V2 n1 n2 i (j + 1) ≤ lc V1 V2 n1 n2 i j ∧ lc V1 V2 n1 n2 i j ≤ lc V1 V2 n1 n2 i (j + 1) + 1) := by
  intro d
  induction d with
  | zero => intro i j h; rw [lc_out (i := i) (Or.inl (by omega)), lc_out (i := i + 1) (Or.inl (by omega)), lc_out (i := i) (j := j + 1) (Or.inl (by omega))]; omega
  | succ d ih =>
    intro i j h
    by_cases h1 : i < n1 ∧ j < n2
    · have a := ih (i + 1) j (by omega)
      have b := ih i (j + 1) (by omega)
      by_cases e : V1 i = V2 j
      · rw [lc_eq h1.1 h1.2 e]
        omega
      · rw [lc_ne h1.1 h1.2 e]
        omega
    · by_cases h2 : i < n1
      · rw [lc_out (i := i) (j := j) (by omega), lc_out (i := i + 1) (j := j) (Or.inr (by omega)), lc_out (i := i) (j := j + 1) (Or.inr (by omega))]; omega
      · rw [lc_out (i := i) (j := j) (by omega), lc_out (i := i + 1) (j := j) (Or.inl (by omega)), lc_out (i := i) (j := j + 1) (Or.inl (by omega))]; omega
theorem lc_st {V1 V2 : Nat → Nat} {n1 n2 i j : Nat} : (lc V1 V2 n1 n2 (i + 1) j ≤ lc V1 V2 n1 n2 i j ∧ lc V1 V2 n1 n2 i j ≤ lc V1 V2 n1 n2 (i + 1) j + 1) ∧ (lc V1 V2 n1 n2 i (j + 1) ≤ lc V1 V2 n1 n2 i j ∧ lc V1 V2 n1 n2 i j ≤ lc V1 V2 n1 n2 i (j + 1) + 1) := lc_step _ i j (Nat.le_refl _)
/-- a figure with which a longest row goes on -/
theorem lc_go {V1 V2 : Nat → Nat} {n1 n2 : Nat} : ∀ (d i j : Nat), (n1 - i) + (n2 - j) ≤ d → 0 < lc V1 V2 n1 n2 i j → ∃ p q, i ≤ p ∧ p < n1 ∧ j ≤ q ∧ q < n2 ∧ V1 p = V2 q ∧ lc V1 V2 n1 n2 (p + 1) (q + 1) + 1 = lc V1 V2 n1 n2 i j := by
  intro d
  induction d with
  | zero => intro i j h h0; rw [lc_out (Or.inl (by omega))] at h0; omega
  | succ d ih =>
    intro i j h h0
    by_cases h1 : i < n1 ∧ j < n2
    · by_cases e : V1 i = V2 j
      · exact ⟨i, j, Nat.le_refl _, h1.1, Nat.le_refl _, h1.2, e, (lc_eq h1.1 h1.2 e).symm⟩
      · have em := lc_ne h1.1 h1.2 e
        rcases Nat.le_total (lc V1 V2 n1 n2 (i + 1) j) (lc V1 V2 n1 n2 i (j + 1)) with q | q
        · have e2 : lc V1 V2 n1 n2 i j = lc V1 V2 n1 n2 i (j + 1) := by rw [em]; omega
          obtain ⟨a, b, h2, h3, h4, h5, h6, h7⟩ := ih i (j + 1) (by omega) (by omega)
          exact ⟨a, b, h2, h3, by omega, h5, h6, by omega⟩
        · have e2 : lc V1 V2 n1 n2 i j = lc V1 V2 n1 n2 (i + 1) j := by rw [em]; omega
          obtain ⟨a, b, h2, h3, h4, h5, h6, h7⟩ := ih (i + 1) j (by omega) (by omega)
          exact ⟨a, b, by omega, h3, h4, h5, h6, by omega⟩
    · rw [lc_out (by omega)] at h0; omega
theorem lc_mono {V1 V2 : Nat → Nat} {n1 n2 : Nat} (i j : Nat) : ∀ a b, lc V1 V2 n1 n2 (i + a) (j + b) ≤ lc V1 V2 n1 n2 i j
  | 0, 0 => Nat.le_refl _
  | a + 1, b => Nat.le_trans (lc_st (i := i + a) (j := j + b)).1.1 (lc_mono i j a b)
  | 0, b + 1 => Nat.le_trans (lc_st (i := i + 0) (j := j + b)).2.1 (lc_mono i j 0 b)
def lnP (V1 V2 : Nat → Nat) (n1 n2 i j len f : Nat) : Bool := decide (pfr V1 n1 f i < n1) && (decide (pfr V2 n2 f j < n2) && decide (lc V1 V2 n1 n2 (pfr V1 n1 f i + 1) (pfr V2 n2 f j + 1) + 1 = len))
/-- there is one among the figures -/
theorem lnP_ex {V1 V2 : Nat → Nat} {n1 n2 i j : Nat} (hi : i ≤ n1) (hj : j ≤ n2) (h8 : ∀ k, V1 k < 8) (h : 0 < lc V1 V2 n1 n2 i j) : ∃ f, f < 8 ∧ lnP V1 V2 n1 n2 i j (lc V1 V2 n1 n2 i j) f = true := by
  obtain ⟨p, q, hp1, hp2, hq1, hq2, e, hl⟩ := lc_go _ i j (Nat.le_refl _) h
  have a := fsr_bd (fun k => decide (V1 k = V1 p)) hi
  have b := fsr_bd (fun k => decide (V2 k = V1 p)) hj
  have hpa : pfr V1 n1 (V1 p) i ≤ p := by
    rcases Nat.lt_or_ge p (pfr V1 n1 (V1 p) i) with z | z
    · have := fsr_no (P := fun k => decide (V1 k = V1 p)) hi p hp1 z
      simp at this
    · exact z
  have hqb : pfr V2 n2 (V1 p) j ≤ q := by
    rcases Nat.lt_or_ge q (pfr V2 n2 (V1 p) j) with z | z
    · have := fsr_no (P := fun k => decide (V2 k = V1 p)) hj q hq1 z
      rw [e] at this; simp at this
    · exact z
  have ha1 : i ≤ pfr V1 n1 (V1 p) i := a.1
  have hb1 : j ≤ pfr V2 n2 (V1 p) j := b.1
  have hP1 : V1 (pfr V1 n1 (V1 p) i) = V1 p := by
    have := fsr_yes (P := fun k => decide (V1 k = V1 p)) hi (by show pfr V1 n1 (V1 p) i < n1; omega)
    exact of_decide_eq_true this
  have hP2 : V2 (pfr V2 n2 (V1 p) j) = V1 p := by
    have := fsr_yes (P := fun k => decide (V2 k = V1 p)) hj (by show pfr V2 n2 (V1 p) j < n2; omega)
    exact of_decide_eq_true this
  refine ⟨V1 p, h8 p, ?_⟩
  have up : lc V1 V2 n1 n2 (p + 1) (q + 1) ≤ lc V1 V2 n1 n2 (pfr V1 n1 (V1 p) i + 1) (pfr V2 n2 (V1 p) j + 1) := by
    have := lc_mono (V1 := V1) (V2 := V2) (n1 := n1) (n2 := n2) (pfr V1 n1 (V1 p) i + 1) (pfr V2 n2 (V1 p) j + 1) (p - pfr V1 n1 (V1 p) i) (q - pfr V2 n2 (V1 p) j)
    rw [show pfr V1 n1 (V1 p) i + 1 + (p - pfr V1 n1 (V1 p) i) = p + 1 by omega, show pfr V2 n2 (V1 p) j + 1 + (q - pfr V2 n2 (V1 p) j) = q + 1 by omega] at this
    exact this
  have dn : lc V1 V2 n1 n2 (pfr V1 n1 (V1 p) i + 1) (pfr V2 n2 (V1 p) j + 1) + 1 ≤ lc V1 V2 n1 n2 i j := by
    rw [← lc_eq (i := pfr V1 n1 (V1 p) i) (j := pfr V2 n2 (V1 p) j) (by omega) (by omega) (by rw [hP1, hP2])]
    have := lc_mono (V1 := V1) (V2 := V2) (n1 := n1) (n2 := n2) i j (pfr V1 n1 (V1 p) i - i) (pfr V2 n2 (V1 p) j - j)
    rw [show i + (pfr V1 n1 (V1 p) i - i) = pfr V1 n1 (V1 p) i by omega, show j + (pfr V2 n2 (V1 p) j - j) = pfr V2 n2 (V1 p) j by omega] at this
    exact this
  unfold lnP
  rw [decide_eq_true (show pfr V1 n1 (V1 p) i < n1 by omega), decide_eq_true (show pfr V2 n2 (V1 p) j < n2 by omega), decide_eq_true (by omega)]
  rfl
/-- the least figure with which a longest row goes on; where two dances stand behind c of them -/
def lnf (V1 V2 : Nat → Nat) (n1 n2 i j len : Nat) : Nat := fs (lnP V1 V2 n1 n2 i j len) 8
def sst (V1 V2 : Nat → Nat) (n1 n2 : Nat) : Nat → Nat × Nat
  | 0 => (0, 0)
  | c + 1 => (pfr V1 n1 (lnf V1 V2 n1 n2 (sst V1 V2 n1 n2 c).1 (sst V1 V2 n1 n2 c).2 (lc V1 V2 n1 n2 0 0 - c)) (sst V1 V2 n1 n2 c).1 + 1, pfr V2 n2 (lnf V1 V2 n1 n2 (sst V1 V2 n1 n2 c).1 (sst V1 V2 n1 n2 c).2 (lc V1 V2 n1 n2 0 0 - c)) (sst V1 V2 n1 n2 c).2 + 1)
def sfg (V1 V2 : Nat → Nat) (n1 n2 c : Nat) : Nat := lnf V1 V2 n1 n2 (sst V1 V2 n1 n2 c).1 (sst V1 V2 n1 n2 c).2 (lc V1 V2 n1 n2 0 0 - c)
theorem fs_ex {P : Nat → Bool} : ∀ {m : Nat}, (∃ f, f < m ∧ P f = true) → fs P m < m ∧ P (fs P m) = true ∧ ∀ j, j < fs P m → P j = false
  | 0, h => by obtain ⟨f, h1, -⟩ := h; omega
  | m + 1, h => by
    by_cases q : ∃ f, f < m ∧ P f = true
    · have ih := fs_ex (m := m) q
      rw [fs, if_pos ih.1]
      exact ⟨by omega, ih.2⟩
    · have hno : ∀ j, j < m → P j = false := fun j hj => by
        cases z : P j
        · rfl
        · exact absurd ⟨j, hj, z⟩ q
      obtain ⟨f, hf, hp⟩ := h
      have e : f = m := by
        rcases Nat.lt_or_ge f m with z | z
        · rw [hno f z] at hp; cases hp
        · omega
      subst e
      rw [fs, fs_no hno, if_neg (by omega), if_pos hp]
      exact ⟨by omega, hp, hno⟩
theorem sst_ok {V1 V2 : Nat → Nat} {n1 n2 : Nat} (h8 : ∀ k, V1 k < 8) : ∀ c, c ≤ lc V1 V2 n1 n2 0 0 → ((sst V1 V2 n1 n2 c).1 ≤ n1 ∧ (sst V1 V2 n1 n2 c).2 ≤ n2) ∧ lc V1 V2 n1 n2 (sst V1 V2 n1 n2 c).1 (sst V1 V2 n1 n2 c).2 = lc V1 V2 n1 n2 0 0 - c
  | 0, _ => ⟨⟨Nat.zero_le _, Nat.zero_le _⟩, rfl⟩
  | c + 1, hc => by
    obtain ⟨⟨h1, h2⟩, h3⟩ := sst_ok (V1 := V1) (V2 := V2) (n1 := n1) (n2 := n2) h8 c (by omega)
    have hex := lnP_ex h1 h2 h8 (by rw [h3]; omega)
    rw [h3] at hex
    obtain ⟨f1, f2, -⟩ := fs_ex hex
    unfold lnP at f2
    simp only [Bool.and_eq_true, decide_eq_true_eq] at f2
    refine ⟨⟨?_, ?_⟩, ?_⟩
    · show pfr V1 n1 (fs (lnP V1 V2 n1 n2 _ _ _) 8) _ + 1 ≤ n1
      have := f2.1; unfold lnP at this ⊢; omega
    · show pfr V2 n2 (fs (lnP V1 V2 n1 n2 _ _ _) 8) _ + 1 ≤ n2
      have := f2.2.1; unfold lnP at this ⊢; omega
    · show lc V1 V2 n1 n2 (pfr V1 n1 (fs (lnP V1 V2 n1 n2 _ _ _) 8) _ + 1) (pfr V2 n2 (fs (lnP V1 V2 n1 n2 _ _ _) 8) _ + 1) = _
      have := f2.2.2; unfold lnP at this ⊢; omega
section AAL
variable {p : Program} {l : Launch} {e : Env} {R : Room} {s : State} {m : MethodId} {args : Array Value} {below : List Frame} {meth : Method} {c : Code} {H : Heap} {locs : List Loc} {cells slots : Nat} {Q : State → Prop}
variable {cc : ByteArray} {pc nL : Nat} {ls : Array Slot} {rest st0 : List Value} {D : va_G} {cy : Nat → ClassId} {ad : Nat → Nat} {N : Nat} {g : Nat → va_E} {own : String}
theorem mial7A (S : CallFix p m c cc nL s args wsL_law own) (hK : va_K D vwCl (tyv cy) s) (hP : MM D ad N g H) {k n t : Nat} {ty : FieldType} {f : Nat → Option Nat} {i : Int32} {a : Nat} (hk : k < N) (hg : g k = .inl (cy t, n, .inr (.inr (.inr (.inr f))))) (ht : (tyv cy)[t]? = some (cy t, .array ty)) (hin : vp_in i n) (hf : f i.toNatClampNeg = some a) (hdg : decode cc pc = .ok (.aaload, 1))
    (kk : W p l e R s m args below meth c H locs cells slots Q (F0 m (pc + 1) ls (.ref a :: rest))) : W p l e R s m args below meth c H locs cells slots Q (F0 m pc ls (.int i :: .ref (ad k) :: rest)) := by
  have hlt : i.toNatClampNeg < n := Nat.not_le.mp fun q => hin (Or.inr q)
  have ha : (wl ad N g)[k]? = some (ad k, .inl (cy t, n, .inr (.inr (.inr (.inr f))))) := by rw [wl_get hk, hg]
  have hkk : W p l e R s m args below meth c H locs cells slots Q (F0 m (pc + 1) ls (va_rf (f i.toNatClampNeg) :: rest)) := by rw [hf]; exact kk
  exact W.aald (v := va_rf (f i.toNatClampNeg)) (ty := .array ty) S.1 S.2.1 (hP k _ ha) ((hK.2 t _ ht).1 n (fun j => va_rf (f j))) rfl (fun q => by cases q) (by show ¬ (i < 0 ∨ (arrV _ _ _).slots.size ≤ _); rw [arrV_size]; exact hin) (by show (arrV _ _ _).slots[_]? = _; rw [arrV_read _ _ hlt]) rfl rfl hdg hkk
end AAL
theorem maxN {a b : Nat} (ha : a < 2 ^ 31) (hb : b < 2 ^ 31) : (if nI a < nI b then nI b else nI a) = nI (max a b) := by
  by_cases h : a < b
  · rw [if_pos (nI_lt h hb), Nat.max_eq_right (by omega)]
  · rw [if_neg (nI_nlt (by omega) ha), Nat.max_eq_left (by omega)]
theorem lq_1 {V1 V2 : Nat → Nat} {n1 n2 i j zz : Nat} {L : Nat → Nat → Nat} (h : ∀ a, i + 1 ≤ a → a < 17 → ∀ x, x < 17 → L a x = lc V1 V2 n1 n2 a x) : ∀ a, i + 1 ≤ a → a < 17 → ∀ x, x < 17 → va_up L i (va_up (L i) j zz) a x = lc V1 V2 n1 n2 a x := fun a h1 h2 x hx => by
  rw [va_up_ne _ _ (by omega)]; exact h a h1 h2 x hx
theorem lq_2 {V1 V2 : Nat → Nat} {n1 n2 i j zz : Nat} {L : Nat → Nat → Nat} (h : ∀ x, j + 1 ≤ x → x < 17 → L i x = lc V1 V2 n1 n2 i x) (hz : zz = lc V1 V2 n1 n2 i j) : ∀ x, j ≤ x → x < 17 → va_up L i (va_up (L i) j zz) i x = lc V1 V2 n1 n2 i x := fun x h1 h2 => by
  rw [va_up_self]
  by_cases e : x = j
  · subst e; rw [va_up_self]; exact hz
  · rw [va_up_ne _ _ e]; exact h x (by omega) h2
theorem lq_3 {i j zz : Nat} {L : Nat → Nat → Nat} (h : ∀ a x, L a x ≤ 100) (hz : zz ≤ 100) : ∀ a x, va_up L i (va_up (L i) j zz) a x ≤ 100 := fun a x => by
  unfold va_up
  split
  · dsimp only; split; exact hz; exact h i x
  · exact h a x
/-- a place or NONE -/
theorem pz_a {p n : Nat} (hp : p ≤ n) (hn : n ≤ 16) (h : (if p < n then nI p else -4) < 0) : ¬ p < n := fun q => by
  rw [if_pos q] at h
  exact absurd h (nI_pos (by omega))
theorem pz_b {p n : Nat} (hp : p ≤ n) (hn : n ≤ 16) (h : ¬ (if p < n then nI p else -4) < 0) : p < n := by
  by_cases q : p < n
  · exact q
  · rw [if_neg q] at h
    exact absurd (by decide) h
theorem lnP_a {V1 V2 : Nat → Nat} {n1 n2 i j len f : Nat} (h : ¬ pfr V1 n1 f i < n1) : lnP V1 V2 n1 n2 i j len f = false := by
  unfold lnP; rw [decide_eq_false h]; rfl
theorem lnP_b {V1 V2 : Nat → Nat} {n1 n2 i j len f : Nat} (h : ¬ pfr V2 n2 f j < n2) : lnP V1 V2 n1 n2 i j len f = false := by
  unfold lnP; rw [decide_eq_false h]; cases decide (pfr V1 n1 f i < n1) <;> rfl
theorem lnP_c {V1 V2 : Nat → Nat} {n1 n2 i j len f : Nat} (h : ¬ lc V1 V2 n1 n2 (pfr V1 n1 f i + 1) (pfr V2 n2 f j + 1) + 1 = len) : lnP V1 V2 n1 n2 i j len f = false := by
  unfold lnP; rw [decide_eq_false h]; cases decide (pfr V1 n1 f i < n1) <;> cases decide (pfr V2 n2 f j < n2) <;> rfl
theorem lnP_t {V1 V2 : Nat → Nat} {n1 n2 i j len f : Nat} (h1 : pfr V1 n1 f i < n1) (h2 : pfr V2 n2 f j < n2) (h : lc V1 V2 n1 n2 (pfr V1 n1 f i + 1) (pfr V2 n2 f j + 1) + 1 = len) : lnP V1 V2 n1 n2 i j len f = true := by
  unfold lnP; rw [decide_eq_true h, decide_eq_true h1, decide_eq_true h2]; rfl
def sRw (V1 V2 : Nat → Nat) (n1 n2 : Nat) (R0 : Nat → Nat) (c : Nat) : Nat → Nat := fun k => if k < c then sfg V1 V2 n1 n2 k else R0 k
theorem sRw_0 {V1 V2 : Nat → Nat} {n1 n2 : Nat} {R0 : Nat → Nat} : sRw V1 V2 n1 n2 R0 0 = R0 := funext fun k => if_neg (Nat.not_lt_zero k)
theorem sfg_ok {V1 V2 : Nat → Nat} {n1 n2 : Nat} (h8 : ∀ k, V1 k < 8) {c : Nat} (h : c < lc V1 V2 n1 n2 0 0) : sfg V1 V2 n1 n2 c < 8 ∧ lnP V1 V2 n1 n2 (sst V1 V2 n1 n2 c).1 (sst V1 V2 n1 n2 c).2 (lc V1 V2 n1 n2 0 0 - c) (sfg V1 V2 n1 n2 c) = true := by
  obtain ⟨⟨h1, h2⟩, h3⟩ := sst_ok (V1 := V1) (V2 := V2) (n1 := n1) (n2 := n2) h8 c (by omega)
  have hex := lnP_ex h1 h2 h8 (by rw [h3]; omega)
  rw [h3] at hex
  obtain ⟨f1, f2, -⟩ := fs_ex hex
  exact ⟨f1, f2⟩
theorem sfg_pl {V1 V2 : Nat → Nat} {n1 n2 : Nat} (h8 : ∀ k, V1 k < 8) {c : Nat} (h : c < lc V1 V2 n1 n2 0 0) : pfr V1 n1 (sfg V1 V2 n1 n2 c) (sst V1 V2 n1 n2 c).1 < n1 ∧ pfr V2 n2 (sfg V1 V2 n1 n2 c) (sst V1 V2 n1 n2 c).2 < n2 := by
  have h2 := (sfg_ok h8 h).2
  unfold lnP at h2
  simp only [Bool.and_eq_true, decide_eq_true_eq] at h2
  exact ⟨h2.1, h2.2.1⟩
theorem sRw_8 {V1 V2 : Nat → Nat} {n1 n2 : Nat} {R0 : Nat → Nat} (h8 : ∀ k, V1 k < 8) (hR : ∀ k, R0 k < 8) {c : Nat} (h : c ≤ lc V1 V2 n1 n2 0 0) : ∀ k, sRw V1 V2 n1 n2 R0 c k < 8 := fun k => by
  unfold sRw
  split
  · exact (sfg_ok h8 (by omega)).1
  · exact hR k
theorem sRw_s {V1 V2 : Nat → Nat} {n1 n2 : Nat} {R0 : Nat → Nat} {c : Nat} (h : c < 16) : apV (sRw V1 V2 n1 n2 R0 c) c (sfg V1 V2 n1 n2 c) = sRw V1 V2 n1 n2 R0 (c + 1) := by
  unfold apV
  rw [if_pos h]
  funext k
  unfold va_up sRw
  by_cases e : k = c
  · subst e; rw [if_pos rfl, if_pos (Nat.lt_succ_self _)]
  · rw [if_neg e]
    by_cases q : k < c
    · rw [if_pos q, if_pos (by omega)]
    · rw [if_neg q, if_neg (by omega)]
theorem lc_n {V1 V2 : Nat → Nat} {n1 n2 : Nat} : lc V1 V2 n1 n2 0 0 ≤ n1 := lc_le' (i := 0)
theorem apVL_s {c : Nat} (h : c < 16) : apVL c = c + 1 := if_pos h


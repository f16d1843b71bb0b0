-- figures as the reference tells them
def NRt (len : Nat) (B : Nat → Nat) (ov nm : Nat) (NS NN : Nat → Nat) : Prop := len ≤ 200 ∧ ov < 2 ∧ (¬ ov = 0 → len = 200) ∧ nm = (if ov = 0 then len else 201) ∧ ∀ i, i < len → NS i = B i / 8 ∧ NN i = B i % 8 ∧ B i < 56
def btL (ov len : Nat) : Nat := if ov = 0 then apL len else len
def btB (ov len : Nat) (B : Nat → Nat) (v : Nat) : Nat → Nat := if ov = 0 then apB B len v else B
def btO (ov len : Nat) : Nat := if ov = 0 then (if len < 200 then 0 else 1) else ov
theorem NR_a {len ov nm : Nat} {B NS NN : Nat → Nat} {v S K : Nat} (h : NRt len B ov nm NS NN) (hn : nm < 200) (hv : v = 8 * S + K) (hS : S ≤ 6) (hK : K < 8) : NRt (btL ov len) (btB ov len B v) (btO ov len) (nm + 1) (va_up NS nm S) (va_up NN nm K) := by
  obtain ⟨h1, h2, h3, h4, h5⟩ := h
  have h0 : ov = 0 := Decidable.byContradiction (fun q => by rw [if_neg q] at h4; omega)
  rw [if_pos h0] at h4
  unfold btL btB btO apL apB
  rw [if_pos h0, if_pos h0, if_pos h0, if_pos (by omega), if_pos (by omega), if_pos (by omega)]
  refine ⟨by omega, by omega, fun q => absurd rfl q, by rw [if_pos rfl, h4], fun i hi => ?_⟩
  rw [← h4]
  by_cases e : i = nm
  · subst e
    rw [va_up_self, va_up_self, va_up_self, hv]
    omega
  · rw [va_up_ne _ _ e, va_up_ne _ _ e, va_up_ne _ _ e]
    exact h5 i (by omega)
theorem NR_b {len ov nm : Nat} {B NS NN : Nat → Nat} {v S K : Nat} (h : NRt len B ov nm NS NN) (hn : ¬ nm < 200) (hn2 : nm ≤ 200) : NRt (btL ov len) (btB ov len B v) (btO ov len) (nm + 1) (va_up NS 200 S) (va_up NN 200 K) := by
  obtain ⟨h1, h2, h3, h4, h5⟩ := h
  have h0 : ov = 0 := Decidable.byContradiction (fun q => by rw [if_neg q] at h4; omega)
  rw [if_pos h0] at h4
  have hl : len = 200 := by omega
  unfold btL btB btO apL apB
  rw [if_pos h0, if_pos h0, if_pos h0, if_neg (by omega), if_neg (by omega), if_neg (by omega)]
  refine ⟨by omega, by omega, fun _ => hl, by rw [if_neg (by omega)]; omega, fun i hi => ?_⟩
  rw [va_up_ne _ _ (by omega), va_up_ne _ _ (by omega)]
  exact h5 i hi
theorem NR_c {len ov nm : Nat} {B NS NN : Nat → Nat} {v : Nat} (h : NRt len B ov nm NS NN) (hn : ¬ nm ≤ 200) : NRt (btL ov len) (btB ov len B v) (btO ov len) nm NS NN := by
  have h0 : ¬ ov = 0 := fun q => by
    have h1 := h.1
    have h4 := h.2.2.2.1
    rw [if_pos q] at h4; omega
  unfold btL btB btO
  rw [if_neg h0, if_neg h0, if_neg h0]
  exact h
theorem NR_w {p : PS} {v nm : Nat} {NS NN : Nat → Nat} (h : pOv p < 2 ∧ (¬ pOv p = 0 → pLen p = 200)) (h2 : NRt (btL (pOv p) (pLen p)) (btB (pOv p) (pLen p) (pB p) v) (btO (pOv p) (pLen p)) nm NS NN) : NRt (pLen (wrP v p)) (pB (wrP v p)) (pOv (wrP v p)) nm NS NN := by
  by_cases q : pOv p = 0
  · unfold btL btB btO at h2
    rw [if_pos q, if_pos q, if_pos q] at h2
    exact h2
  · have hl := h.2 q
    have h1 : pOv p = 1 := by omega
    unfold btL btB btO at h2
    rw [if_neg q, if_neg q, if_neg q] at h2
    have e1 : pLen (wrP v p) = pLen p := by show apL (pLen p) = _; unfold apL; rw [if_neg (by omega)]
    have e2 : pB (wrP v p) = pB p := by show apB (pB p) (pLen p) v = _; unfold apB; rw [if_neg (by omega)]
    have e3 : pOv (wrP v p) = pOv p := by show (if pLen p < 200 then 0 else 1) = _; rw [if_neg (by omega), h1]
    rw [e1, e2, e3]; exact h2
theorem NR_L {f : Nat → Nat} {fr c nm : Nat} {p : PS} {NS NN : Nat → Nat} (h2 : NRt (btL (pOv (wrL f fr p c)) (pLen (wrL f fr p c))) (btB (pOv (wrL f fr p c)) (pLen (wrL f fr p c)) (pB (wrL f fr p c)) (f (fr + c))) (btO (pOv (wrL f fr p c)) (pLen (wrL f fr p c))) nm NS NN) : NRt (pLen (wrL f fr p (c + 1))) (pB (wrL f fr p (c + 1))) (pOv (wrL f fr p (c + 1))) nm NS NN := by
  unfold btL btB btO at h2
  rw [wrL]
  by_cases q : pOv (wrL f fr p c) = 0
  · rw [if_pos q, if_pos q, if_pos q] at h2
    rw [if_pos q]; exact h2
  · rw [if_neg q, if_neg q, if_neg q] at h2
    rw [if_neg q]; exact h2
/-- the reference's teller and the class's -/
def MPR (p : PS) (i nm dp : Nat) (NS NN BG RD IT : Nat → Nat) : Prop := (NRt (pLen p) (pB p) (pOv p) nm NS NN ∧ POK p) ∧ (dp = pOp p ∧ pOp p ≤ 4) ∧ ((pOv p = 0 → ∀ d, d < pOp p → BG (d + 1) = pSt p d) ∧ (∀ d, d < pOp p → BG (d + 1) ≤ 201) ∧ ∀ d, d < pOp p → RD (d + 1) = pTm p d ∧ pTm p d ≤ 20) ∧ (∀ d, d < pOp p → 1 ≤ IT d) ∧ (pEm p = 0 ↔ 1 ≤ IT (pOp p)) ∧ ∀ d, d ≤ pOp p → IT d ≤ i
/-- an item more at the innermost -/
theorem MPR_it {p p2 : PS} {i j nm nm2 dp : Nat} {NS NN BG RD IT NS2 NN2 : Nat → Nat} (h : MPR p i nm dp NS NN BG RD IT) (hn : NRt (pLen p2) (pB p2) (pOv p2) nm2 NS2 NN2) (hk : POK p2) (h1 : pOp p2 = pOp p) (h2 : pSt p2 = pSt p) (h3 : pTm p2 = pTm p) (h4 : pEm p2 = 0) (h5 : pOv p2 = 0 → pOv p = 0) (hj : i < j) : MPR p2 j nm2 dp NS2 NN2 BG RD (va_up IT dp (IT dp + 1)) := by
  obtain ⟨⟨a1, a2⟩, ⟨b1, b2⟩, ⟨c1, c2, c3⟩, d1, e1, f1⟩ := h
  refine ⟨⟨hn, hk⟩, ⟨by rw [h1]; exact b1, by rw [h1]; exact b2⟩, ⟨fun q => by rw [h1, h2]; exact c1 (h5 q), by rw [h1]; exact c2, by rw [h1, h3]; exact c3⟩, fun d hd => ?_, ?_, fun d hd => ?_⟩
  · unfold va_up
    split
    · omega
    · exact d1 d (by rw [← h1]; exact hd)
  · rw [h4, h1, ← b1, va_up_self]
    constructor
    · intro _; omega
    · intro _; rfl
  · unfold va_up
    split
    · have := f1 dp (by omega); omega
    · have := f1 d (by omega); omega
theorem wrP_ov {v : Nat} {p : PS} (h : ¬ pOv p = 0 → pLen p = 200) (q : pOv (wrP v p) = 0) : pOv p = 0 := Decidable.byContradiction (fun z => by
  have e : pOv (wrP v p) = 1 := if_neg (by have := h z; omega)
  rw [e] at q; cases q)
theorem wrL_ov {f : Nat → Nat} {fr : Nat} {p : PS} : ∀ c, pOv (wrL f fr p c) = 0 → pOv p = 0 := fun c q => Decidable.byContradiction (fun z => by
  have := wrL_end (f := f) (fr := fr) (p := p) (c := 0) z c
  rw [Nat.zero_add] at this
  rw [this] at q
  exact z q)
theorem MPR_0 {IT NS NN BG RD : Nat → Nat} {p : PS} (h : POK p) (h1 : pLen p = 0) (h2 : pOp p = 0) (h3 : pEm p = 1) (h4 : pOv p = 0) : MPR p 0 0 0 NS NN BG RD (va_up IT 0 0) := by
  refine ⟨⟨⟨by omega, by omega, fun q => absurd h4 q, by rw [if_pos h4, h1], fun i hi => by omega⟩, h⟩, ⟨h2.symm, by omega⟩, ⟨fun _ d hd => by omega, fun d hd => by omega, fun d hd => by omega⟩, fun d hd => by omega, ?_, fun d hd => ?_⟩
  · rw [h2, va_up_self]; omega
  · rw [show d = 0 by omega, va_up_self]; exact Nat.le_refl 0
/-- a round opened -/
theorem MPR_op {p : PS} {i j nm dp : Nat} {NS NN BG RD IT : Nat → Nat} (h : MPR p i nm dp NS NN BG RD IT) (hd : pOp p < 4) (hr : pRd p ≤ 20) (hj : i < j) : MPR (opP p) j nm (dp + 1) NS NN (va_up BG (dp + 1) nm) (va_up RD (dp + 1) (pRd p)) (va_up (va_up IT dp (IT dp + 1)) (dp + 1) 0) := by
  have hk : POK (opP p) := by
    have q := tkOpen_ok (kd := 2) (p := p) h.1.2
    unfold tkOpen at q
    rw [if_pos rfl, if_pos hd] at q
    exact q
  obtain ⟨⟨a1, a2⟩, ⟨b1, b2⟩, ⟨c1, c2, c3⟩, d1, e1, f1⟩ := h
  have en : ¬ pOv p = 0 ∨ nm = pLen p := by
    by_cases z : pOv p = 0
    · right; have := a1.2.2.2.1; rw [if_pos z] at this; exact this
    · exact Or.inl z
  refine ⟨⟨a1, hk⟩, ⟨by show dp + 1 = pOp p + 1; rw [b1], by show pOp p + 1 ≤ 4; omega⟩, ⟨fun q d hd2 => ?_, fun d hd2 => ?_, fun d hd2 => ?_⟩, fun d hd2 => ?_, ?_, fun d hd2 => ?_⟩
  · have hd2 : d < pOp p + 1 := hd2
    have q : pOv p = 0 := q
    show va_up BG (dp + 1) nm (d + 1) = va_up (pSt p) (pOp p) (pLen p) d
    rw [b1]
    by_cases e : d = pOp p
    · subst e
      rw [va_up_self, va_up_self]
      rcases en with z | z
      · exact absurd q z
      · exact z
    · rw [va_up_ne _ _ e, va_up_ne _ _ (by omega)]
      exact c1 q d (by omega)
  · have hnm : nm ≤ 201 := by
      have := a1.2.2.2.1
      have := a1.1
      split at * <;> omega
    have hd2 : d < pOp p + 1 := hd2
    unfold va_up
    split
    · exact hnm
    · exact c2 d (by omega)
  · have hd2 : d < pOp p + 1 := hd2
    show va_up RD (dp + 1) (pRd p) (d + 1) = va_up (pTm p) (pOp p) (pRd p) d ∧ va_up (pTm p) (pOp p) (pRd p) d ≤ 20
    rw [b1]
    by_cases e : d = pOp p
    · subst e
      rw [va_up_self, va_up_self]
      exact ⟨rfl, hr⟩
    · rw [va_up_ne _ _ e, va_up_ne _ _ (by omega)]
      exact c3 d (by omega)
  · have hd2 : d < pOp p + 1 := hd2
    rw [va_up_ne _ _ (by omega)]
    unfold va_up
    split
    · omega
    · exact d1 d (by omega)
  · show (1 = 0 ↔ 1 ≤ va_up (va_up IT dp (IT dp + 1)) (dp + 1) 0 (pOp p + 1))
    rw [b1, va_up_self]
    omega
  · have hd2 : d ≤ pOp p + 1 := hd2
    unfold va_up
    split
    · omega
    · split
      · have := f1 dp (by omega); omega
      · have := f1 d (by omega); omega
/-- a round closed -/
theorem MPR_cl {p p2 : PS} {i j nm nm2 dp : Nat} {NS NN BG RD IT NS2 NN2 : Nat → Nat} (h : MPR p i nm dp NS NN BG RD IT) (hn : NRt (pLen p2) (pB p2) (pOv p2) nm2 NS2 NN2) (hk : POK p2) (h0 : 0 < pOp p) (h1 : pOp p2 = pOp p - 1) (h2 : pSt p2 = pSt p) (h3 : pTm p2 = pTm p) (h4 : pEm p2 = 0) (h5 : pOv p2 = 0 → pOv p = 0) (hj : i ≤ j) : MPR p2 j nm2 (dp - 1) NS2 NN2 BG RD IT := by
  obtain ⟨⟨a1, a2⟩, ⟨b1, b2⟩, ⟨c1, c2, c3⟩, d1, e1, f1⟩ := h
  refine ⟨⟨hn, hk⟩, ⟨by rw [h1, b1], by omega⟩, ⟨fun q d hd => by rw [h2]; exact c1 (h5 q) d (by omega), fun d hd => c2 d (by omega), fun d hd => by rw [h3]; exact c3 d (by omega)⟩, fun d hd => d1 d (by omega), ?_, fun d hd => by have := f1 d (by omega); omega⟩
  rw [h4, h1]
  have := d1 (pOp p - 1) (by omega)
  constructor
  · intro _; exact this
  · intro _; rfl


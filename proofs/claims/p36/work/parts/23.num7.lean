/-- the teller's state: the draft's length and beats, starts, times, open, wanted, letter, rounds, empty, overlong -/
abbrev PS : Type := Nat × (Nat → Nat) × (Nat → Nat) × (Nat → Nat) × Nat × Nat × Nat × Nat × Nat × Nat
abbrev pLen (p : PS) : Nat := p.1
abbrev pB (p : PS) : Nat → Nat := p.2.1
abbrev pSt (p : PS) : Nat → Nat := p.2.2.1
abbrev pTm (p : PS) : Nat → Nat := p.2.2.2.1
abbrev pOp (p : PS) : Nat := p.2.2.2.2.1
abbrev pWt (p : PS) : Nat := p.2.2.2.2.2.1
abbrev pLt (p : PS) : Nat := p.2.2.2.2.2.2.1
abbrev pRd (p : PS) : Nat := p.2.2.2.2.2.2.2.1
abbrev pEm (p : PS) : Nat := p.2.2.2.2.2.2.2.2.1
abbrev pOv (p : PS) : Nat := p.2.2.2.2.2.2.2.2.2
def POK (p : PS) : Prop := (pLen p ≤ 200 ∧ ∀ i, pB p i < 64) ∧ (pOp p ≤ 4 ∧ pWt p < 3 ∧ pLt p < 7 ∧ pRd p < 3000 ∧ pEm p < 2 ∧ pOv p < 2) ∧ (∀ i, pSt p i ≤ 200) ∧ (∀ i, pTm p i < 3000) ∧ ∀ i, i < pOp p → pSt p i ≤ pLen p
/-- one beat written -/
def wrP (v : Nat) (p : PS) : PS := (apL (pLen p), apB (pB p) (pLen p) v, pSt p, pTm p, pOp p, pWt p, pLt p, pRd p, 0, if pLen p < 200 then 0 else 1)
/-- so many beats of f from a place on, as long as there is room -/
def wrL (f : Nat → Nat) (fr : Nat) (p : PS) : Nat → PS
  | 0 => p
  | c + 1 => if pOv (wrL f fr p c) = 0 then (apL (pLen (wrL f fr p c)), apB (pB (wrL f fr p c)) (pLen (wrL f fr p c)) (f (fr + c)), pSt p, pTm p, pOp p, pWt p, pLt p, pRd p, pEm p, if pLen (wrL f fr p c) < 200 then 0 else 1) else wrL f fr p c
def em0 (p : PS) : PS := (pLen p, pB p, pSt p, pTm p, pOp p, pWt p, pLt p, pRd p, 0, pOv p)
def woP (f : Nat → Nat) (fr to : Nat) (p : PS) : PS := (pLen (wrL f fr p (to - fr)), pB (wrL f fr p (to - fr)), pSt p, pTm p, pOp p, pWt p, pLt p, pRd p, 0, pOv (wrL f fr p (to - fr)))
theorem apL_le {n : Nat} (h : n ≤ 200) : apL n ≤ 200 := by unfold apL; split <;> omega
theorem apL_ge (n : Nat) : n ≤ apL n := by unfold apL; split <;> omega
theorem wrP_ok {p : PS} {v : Nat} (h : POK p) (hv : v < 64) : POK (wrP v p) := by
  obtain ⟨⟨h1, h2⟩, ⟨a, b, c, d, e, f⟩, h3, h4, h5⟩ := h
  refine ⟨⟨apL_le h1, apB_lt h2 hv⟩, ⟨a, b, c, d, by show 0 < 2; omega, ?_⟩, h3, h4, fun i hi => Nat.le_trans (h5 i hi) (apL_ge _)⟩
  show (if pLen p < 200 then 0 else 1) < 2
  split <;> omega
theorem wrL_ok {f : Nat → Nat} {fr : Nat} {p : PS} (hf : ∀ i, f i < 64) (h : POK p) : ∀ c, POK (wrL f fr p c) ∧ (pSt (wrL f fr p c) = pSt p ∧ pTm (wrL f fr p c) = pTm p ∧ pOp (wrL f fr p c) = pOp p ∧ pWt (wrL f fr p c) = pWt p ∧ pLt (wrL f fr p c) = pLt p ∧ pRd (wrL f fr p c) = pRd p ∧ pEm (wrL f fr p c) = pEm p) ∧ pLen p ≤ pLen (wrL f fr p c)
  | 0 => ⟨h, ⟨rfl, rfl, rfl, rfl, rfl, rfl, rfl⟩, Nat.le_refl _⟩
  | c + 1 => by
    have ih := wrL_ok (fr := fr) hf h c
    rw [wrL]
    split
    · obtain ⟨⟨⟨h1, h2⟩, ⟨a, b, c1, d, e, g⟩, h3, h4, h5⟩, ⟨q1, q2, q3, q4, q5, q6, q7⟩, hl⟩ := ih
      obtain ⟨-, ⟨a', b', c', d', e', g'⟩, h3', h4', h5'⟩ := h
      refine ⟨⟨⟨apL_le h1, apB_lt h2 (hf _)⟩, ⟨a', b', c', d', e', ?_⟩, h3', h4', fun i hi => Nat.le_trans (h5' i hi) (Nat.le_trans hl (apL_ge _))⟩, ⟨rfl, rfl, rfl, rfl, rfl, rfl, rfl⟩, Nat.le_trans hl (apL_ge _)⟩
      show (if _ then 0 else 1) < 2
      split <;> omega
    · exact ih
theorem em0_ok {p : PS} (h : POK p) : POK (em0 p) := by
  obtain ⟨h1, ⟨a, b, c, d, e, f⟩, h3⟩ := h
  exact ⟨h1, ⟨a, b, c, d, by show 0 < 2; omega, f⟩, h3⟩
theorem woP_ok {f : Nat → Nat} {fr to : Nat} {p : PS} (hf : ∀ i, f i < 64) (h : POK p) : POK (woP f fr to p) := by
  obtain ⟨⟨⟨h1, h2⟩, ⟨-, -, -, -, -, g⟩, -⟩, -, hl⟩ := wrL_ok (fr := fr) hf h (to - fr)
  obtain ⟨-, ⟨a, b, c, d, e, -⟩, h3, h4, h5⟩ := h
  exact ⟨⟨h1, h2⟩, ⟨a, b, c, d, by show 0 < 2; omega, g⟩, h3, h4, fun i hi => Nat.le_trans (h5 i hi) hl⟩
theorem woP_le {f : Nat → Nat} {fr to : Nat} {p : PS} (hf : ∀ i, f i < 64) (h : POK p) : pLen p ≤ pLen (woP f fr to p) := (wrL_ok (fr := fr) hf h (to - fr)).2.2
/-- a ) : the rounds that are left, written -/
def clI (fr to : Nat) (p : PS) : Nat → PS
  | 0 => p
  | c + 1 => if pOv (clI fr to p c) = 0 then woP (pB (clI fr to p c)) fr to (clI fr to p c) else clI fr to p c
def opD (p : PS) : PS := (pLen p, pB p, pSt p, pTm p, pOp p - 1, pWt p, pLt p, pRd p, pEm p, pOv p)
def clP (p : PS) : PS := clI (pSt p (pOp p - 1)) (pLen p) (opD p) (pTm p (pOp p - 1) - 1)
def tkItem (kd tv : Nat) (p : PS) : Nat × PS :=
  if kd = 0 then (0, (pLen p, pB p, pSt p, pTm p, pOp p, 1, tv, pRd p, pEm p, pOv p))
  else if kd = 1 then (if tv < 1 ∨ 20 < tv then 3 else 0, (pLen p, pB p, pSt p, pTm p, pOp p, 2, pLt p, tv, pEm p, pOv p))
  else if kd = 4 then (0, wrP 48 p)
  else if kd = 3 then (if pEm p ≠ 0 ∨ pOp p = 0 then (2, p) else (0, clP p))
  else if kd = 5 then (if pEm p ≠ 0 ∨ pOp p ≠ 0 then 2 else 0, p)
  else (2, p)
def opP (p : PS) : PS := (pLen p, pB p, va_up (pSt p) (pOp p) (pLen p), va_up (pTm p) (pOp p) (pRd p), pOp p + 1, 0, pLt p, pRd p, 1, pOv p)
def tkOpen (kd : Nat) (p : PS) : Nat × PS := if kd = 2 then (if pOp p < 4 then (0, opP p) else (4, p)) else (2, p)
def wt0 (p : PS) : PS := (pLen p, pB p, pSt p, pTm p, pOp p, 0, pLt p, pRd p, pEm p, pOv p)
def tkNum (Fl : Nat → Nat) (FB : Nat → Nat → Nat) (kn kd tv : Nat) (p : PS) : Nat × PS :=
  if kd = 1 then (if tv < (if pLt p = 6 then kn else 8) then (0, if pLt p = 6 then woP (bt8 (FB tv) (Fl tv)) 0 (Fl tv) (wt0 p) else wrP (8 * pLt p + tv) (wt0 p)) else (3, p)) else (2, p)
def tkAny (Fl : Nat → Nat) (FB : Nat → Nat → Nat) (kn kd tv : Nat) (p : PS) : Nat × PS :=
  if kd = 6 then (1, p) else if pWt p = 1 then tkNum Fl FB kn kd tv p else if pWt p = 2 then tkOpen kd p else tkItem kd tv p
theorem wrL_end {f : Nat → Nat} {fr : Nat} {p : PS} {c : Nat} (h : ¬ pOv (wrL f fr p c) = 0) : ∀ d, wrL f fr p (c + d) = wrL f fr p c
  | 0 => rfl
  | d + 1 => by
    show wrL f fr p (c + d + 1) = _
    rw [wrL, wrL_end h d, if_neg h]
theorem clI_end {fr to : Nat} {p : PS} {c : Nat} (h : ¬ pOv (clI fr to p c) = 0) : ∀ d, clI fr to p (c + d) = clI fr to p c
  | 0 => rfl
  | d + 1 => by
    show clI fr to p (c + d + 1) = _
    rw [clI, clI_end h d, if_neg h]
theorem wrL_B {f : Nat → Nat} {fr : Nat} {p : PS} (h : pLen p ≤ 200) : ∀ c i, i < pLen p → pB (wrL f fr p c) i = pB p i ∧ pLen p ≤ pLen (wrL f fr p c)
  | 0, i, _ => ⟨rfl, Nat.le_refl _⟩
  | c + 1, i, hi => by
    have ih := wrL_B (f := f) (fr := fr) h c i hi
    rw [wrL]
    split
    · refine ⟨?_, Nat.le_trans ih.2 (apL_ge _)⟩
      show apB _ _ _ i = _
      unfold apB
      split
      · rw [va_up_ne _ _ (by omega)]; exact ih.1
      · exact ih.1
    · exact ih
theorem opD_ok {p : PS} (h : POK p) : POK (opD p) := by
  obtain ⟨h1, ⟨a, b, c, d, e, f⟩, h3, h4, h5⟩ := h
  exact ⟨h1, ⟨by show pOp p - 1 ≤ 4; omega, b, c, d, e, f⟩, h3, h4, fun i hi => h5 i (by have : i < pOp p - 1 := hi; omega)⟩
theorem clI_ok {fr to : Nat} {p : PS} (h : POK p) : ∀ c, POK (clI fr to p c) ∧ (pSt (clI fr to p c) = pSt p ∧ pTm (clI fr to p c) = pTm p ∧ pOp (clI fr to p c) = pOp p ∧ pWt (clI fr to p c) = pWt p ∧ pLt (clI fr to p c) = pLt p ∧ pRd (clI fr to p c) = pRd p) ∧ pLen p ≤ pLen (clI fr to p c)
  | 0 => ⟨h, ⟨rfl, rfl, rfl, rfl, rfl, rfl⟩, Nat.le_refl _⟩
  | c + 1 => by
    have ih := clI_ok (fr := fr) (to := to) h c
    rw [clI]
    split
    · obtain ⟨i0, ⟨i1, i2, i3, i4, i5, i6⟩, il⟩ := ih
      exact ⟨woP_ok i0.1.2 i0, ⟨i1, i2, i3, i4, i5, i6⟩, Nat.le_trans il (woP_le i0.1.2 i0)⟩
    · exact ih
theorem wrL_s1 {f : Nat → Nat} {fr : Nat} {p : PS} {c : Nat} (h : pOv (wrL f fr p c) = 0) (hl : pLen (wrL f fr p c) < 200) : wrL f fr p (c + 1) = (apL (pLen (wrL f fr p c)), apB (pB (wrL f fr p c)) (pLen (wrL f fr p c)) (f (fr + c)), pSt p, pTm p, pOp p, pWt p, pLt p, pRd p, pEm p, 0) := by rw [wrL, if_pos h, if_pos hl]
theorem wrL_s2 {f : Nat → Nat} {fr : Nat} {p : PS} {c : Nat} (h : pOv (wrL f fr p c) = 0) (hl : ¬ pLen (wrL f fr p c) < 200) : wrL f fr p (c + 1) = (apL (pLen (wrL f fr p c)), apB (pB (wrL f fr p c)) (pLen (wrL f fr p c)) (f (fr + c)), pSt p, pTm p, pOp p, pWt p, pLt p, pRd p, pEm p, 1) := by rw [wrL, if_pos h, if_neg hl]
theorem wrP_1 {v : Nat} {p : PS} (hl : pLen p < 200) : wrP v p = (apL (pLen p), apB (pB p) (pLen p) v, pSt p, pTm p, pOp p, pWt p, pLt p, pRd p, 0, 0) := by unfold wrP; rw [if_pos hl]
theorem wrP_2 {v : Nat} {p : PS} (hl : ¬ pLen p < 200) : wrP v p = (apL (pLen p), apB (pB p) (pLen p) v, pSt p, pTm p, pOp p, pWt p, pLt p, pRd p, 0, 1) := by unfold wrP; rw [if_neg hl]
theorem tkItem_ok {kd tv : Nat} {p : PS} (h : POK p) (htv : kd < 2 → tv < 3000) (h0 : kd = 0 → tv < 7) : POK (tkItem kd tv p).2 := by
  have hh := h
  obtain ⟨h1, ⟨a, b, c, d, e, f⟩, h3, h4, h5⟩ := h
  unfold tkItem
  split
  · exact ⟨h1, ⟨a, by show 1 < 3; omega, h0 (by assumption), d, e, f⟩, h3, h4, h5⟩
  · split
    · exact ⟨h1, ⟨a, by show 2 < 3; omega, c, htv (by omega), e, f⟩, h3, h4, h5⟩
    · split
      · exact wrP_ok hh (by omega)
      · split
        · split
          · exact hh
          · exact (clI_ok (opD_ok hh) _).1
        · split
          · exact hh
          · exact hh
theorem tkOpen_ok {kd : Nat} {p : PS} (h : POK p) : POK (tkOpen kd p).2 := by
  have hh := h
  obtain ⟨h1, ⟨a, b, c, d, e, f⟩, h3, h4, h5⟩ := h
  unfold tkOpen
  split
  · split
    · refine ⟨h1, ⟨by show pOp p + 1 ≤ 4; omega, by show 0 < 3; omega, c, d, by show 1 < 2; omega, f⟩, fun i => ?_, fun i => ?_, fun i hi => ?_⟩
      · show va_up _ _ _ i ≤ 200
        unfold va_up; split; exact h1.1; exact h3 i
      · show va_up _ _ _ i < 3000
        unfold va_up; split; exact d; exact h4 i
      · show va_up _ _ _ i ≤ _
        have hi2 : i < pOp p + 1 := hi
        unfold va_up; split
        · exact Nat.le_refl _
        · exact h5 i (by omega)
    · exact hh
  · exact hh
theorem tkNum_ok {Fl : Nat → Nat} {FB : Nat → Nat → Nat} {kn kd tv : Nat} {p : PS} (h : POK p) (hFB : ∀ j i, FB j i < 64) (hkn : kn ≤ 8) : POK (tkNum Fl FB kn kd tv p).2 := by
  have hh := h
  obtain ⟨h1, ⟨a, b, c, d, e, f⟩, h3, h4, h5⟩ := h
  have hw : POK (wt0 p) := ⟨h1, ⟨a, by show 0 < 3; omega, c, d, e, f⟩, h3, h4, h5⟩
  unfold tkNum
  by_cases k1 : kd = 1
  · rw [if_pos k1]
    by_cases k2 : tv < (if pLt p = 6 then kn else 8)
    · rw [if_pos k2]
      show POK (if pLt p = 6 then woP (bt8 (FB tv) (Fl tv)) 0 (Fl tv) (wt0 p) else wrP (8 * pLt p + tv) (wt0 p))
      by_cases k3 : pLt p = 6
      · rw [if_pos k3]; exact woP_ok (fun i => bt8_lt (hFB tv)) hw
      · rw [if_neg k3]; rw [if_neg k3] at k2
        exact wrP_ok hw (by omega)
    · rw [if_neg k2]; exact hh
  · rw [if_neg k1]; exact hh
theorem tkAny_ok {Fl : Nat → Nat} {FB : Nat → Nat → Nat} {kn kd tv : Nat} {p : PS} (h : POK p) (hFB : ∀ j i, FB j i < 64) (hkn : kn ≤ 8) (htv : kd < 2 → tv < 3000) (h0 : kd = 0 → tv < 7) : POK (tkAny Fl FB kn kd tv p).2 := by
  unfold tkAny
  split
  · exact h
  · split
    · exact tkNum_ok h hFB hkn
    · split
      · exact tkOpen_ok h
      · exact tkItem_ok h htv h0
theorem wt0_ok {p : PS} (h : POK p) : POK (wt0 p) := by
  obtain ⟨h1, ⟨a, b, c, d, e, f⟩, h3, h4, h5⟩ := h
  exact ⟨h1, ⟨a, by show 0 < 3; omega, c, d, e, f⟩, h3, h4, h5⟩
theorem min8 {u : Nat} (hu : u ≤ 8) : (if nI 8 < nI u then nI 8 else nI u) = nI u := by
  rw [if_neg (nI_nlt hu (by omega))]


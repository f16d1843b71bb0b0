-- a figure's text, and what the teller makes of it
/-- the teller's start -/
def ps0 (p : PS) : Prop := (pLen p = 0 ∧ pOp p = 0) ∧ (pWt p = 0 ∧ pEm p = 1) ∧ pOv p = 0
/-- so far read: the tape's first bytes are told; op: whether a round is open, from the beat f on, m times -/
def TXP (T : Nat → Nat) (len many : Nat) (R : Nat → Nat) (op em f m : Nat) : Prop := ∀ (Fl : Nat → Nat) (FB : Nat → Nat → Nat) (kn : Nat) (T2 : Nat → Nat) (L : Nat) (p0 : PS), ps0 p0 → (∀ j, j < len → T2 j = T j) → len ≤ L → ∃ i q pl p, tkR Fl FB kn T2 L p0 i = (q, p, 0, pl, 0) ∧ i ≤ len ∧ q ≤ len ∧ (∀ j, q ≤ j → j < len → T2 j = 32) ∧ (pLen p = many ∧ ∀ j, j < many → pB p j = R j) ∧ (pWt p = 0 ∧ pOv p = 0) ∧ (pOp p = op ∧ pEm p = em) ∧ (op = 1 → pSt p 0 = f ∧ pTm p 0 = m)
/-- a token behind blanks -/
theorem lx_P {T : Nat → Nat} {L q x : Nat} (hq : q ≤ x) (hx : x < L) (hb : ∀ j, q ≤ j → j < x → T j = 32) (hn : ¬ T x = 32) : lxP T L q = x :=
  fsr_stop hq hx (fun k a b => by rw [decide_eq_false]; rw [hb k a b]; simp) (by simp [hn])
theorem lx_P0 {T : Nat → Nat} {L q : Nat} (hq : q ≤ L) (hb : ∀ j, q ≤ j → j < L → T j = 32) : lxP T L q = L :=
  fsr_none hq (fun k a b => by rw [decide_eq_false]; rw [hb k a b]; simp)
theorem lx_sign {T : Nat → Nat} {L q x c : Nat} (hq : q ≤ x) (hx : x < L) (hb : ∀ j, q ≤ j → j < x → T j = 32) (hc : T x = c) (hn : ¬ c = 32) (hd : dg c = false) : lxP T L q = x ∧ lxN T L q = x + 1 ∧ lxK T L q = (if ixL c < 7 then 0 else if c = 40 then 2 else if c = 41 then 3 else if c = 46 then 4 else 6) ∧ lxV T L q = ixL c := by
  have hp := lx_P hq hx hb (by rw [hc]; exact hn)
  refine ⟨hp, ?_, ?_, ?_⟩
  · unfold lxN; rw [hp, hc, if_pos hx, if_neg (by rw [hd]; decide)]
  · unfold lxK; rw [hp, hc, if_pos hx, if_neg (by rw [hd]; decide)]
  · unfold lxV; rw [hp, hc, if_neg (by rw [hd]; decide)]
theorem lx_dig {T : Nat → Nat} {L q x v : Nat} (hq : q ≤ x) (hx : x + 1 < L) (hb : ∀ j, q ≤ j → j < x → T j = 32) (hc : T x = 48 + v) (hv : v < 10) (hn : dg (T (x + 1)) = false) : lxP T L q = x ∧ lxN T L q = x + 1 ∧ lxK T L q = 1 ∧ lxV T L q = v := by
  have hd : dg (48 + v) = true := by
    unfold dg
    rw [decide_eq_true (by omega), decide_eq_true (by omega)]
    rfl
  have hp := lx_P (L := L) hq (by omega) hb (by rw [hc]; omega)
  have he : dgE T L x = x + 1 := fsr_stop (by omega) hx (fun k a b => by
    obtain rfl : k = x := by omega
    rw [hc, hd]
    rfl) (by rw [hn]; rfl)
  refine ⟨hp, ?_, ?_, ?_⟩
  · unfold lxN; rw [hp, hc, if_pos (by omega), if_pos hd, he]
  · unfold lxK; rw [hp, hc, if_pos (by omega), if_pos hd, he, if_pos (by omega)]
  · unfold lxV
    rw [hp, hc, if_pos hd, he, show x + 1 - x = 1 by omega]
    show (if 0 < 2 then 10 * 0 + T (x + 0) - 48 else 0) = v
    rw [if_pos (by omega), Nat.add_zero, hc]
    omega
theorem lx_end {T : Nat → Nat} {L q : Nat} (hq : q ≤ L) (hb : ∀ j, q ≤ j → j < L → T j = 32) : lxP T L q = L ∧ lxK T L q = 5 := by
  have hp := lx_P0 hq hb
  refine ⟨hp, ?_⟩
  unfold lxK; rw [hp, if_neg (by omega)]
theorem TXP_0 {T R : Nat → Nat} : TXP T 0 0 R 0 1 0 0 := fun Fl FB kn T2 L p0 h0 _ _ => ⟨0, 0, 0, p0, rfl, Nat.le_refl _, Nat.le_refl _, fun j _ h => absurd h (Nat.not_lt_zero _), ⟨h0.1.1, fun j h => absurd h (Nat.not_lt_zero _)⟩, ⟨h0.2.1.1, h0.2.2⟩, ⟨h0.1.2, h0.2.1.2⟩, fun h => absurd h (by decide)⟩
/-- a letter and its number -/
theorem TXP_act {T T1 R R1 : Nat → Nat} {len many op em f m c sort num : Nat} (h : TXP T len many R op em f m) (hT : ∀ j, j < len → T1 j = T j) (h1 : T1 len = c) (hc : ixL c = sort) (hs : sort < 6) (hd : dg c = false) (hn : ¬ c = 32) (h2 : T1 (len + 1) = 48 + num) (hnum : num < 8) (h3 : T1 (len + 2) = 32) (hm : many < 200) (hR : ∀ j, j < many → R1 j = R j) (hRm : R1 many = 8 * sort + num) : TXP T1 (len + 3) (many + 1) R1 op 0 f m := by
  intro Fl FB kn T2 L p0 h0 hT2 hL
  obtain ⟨i, q, pl, p, e, hi, hq, hb, ⟨b1, b2⟩, ⟨b3, b4⟩, ⟨b5, b6⟩, b7⟩ := h Fl FB kn T2 L p0 h0 (fun j hj => (hT2 j (by omega)).trans (hT j hj)) (by omega)
  have g1 := (hT2 len (by omega)).trans h1
  have g2 := (hT2 (len + 1) (by omega)).trans h2
  have g3 := (hT2 (len + 2) (by omega)).trans h3
  obtain ⟨x1, x2, x3, x4⟩ := lx_sign (L := L) hq (by omega) hb g1 hn hd
  rw [hc, if_pos (by omega)] at x3
  rw [hc] at x4
  have s1 : tkAny Fl FB kn (lxK T2 L q) (lxV T2 L q) p = (0, (pLen p, pB p, pSt p, pTm p, pOp p, 1, sort, pRd p, pEm p, pOv p)) := by
    rw [x3, x4]
    unfold tkAny
    rw [if_neg (by decide), if_neg (by omega), if_neg (by omega)]
    unfold tkItem
    rw [if_pos rfl]
  have e1 := tkR_s e s1
  rw [x2, x3] at e1
  have e1 : tkR Fl FB kn T2 L p0 (i + 1) = (len + 1, (pLen p, pB p, pSt p, pTm p, pOp p, 1, sort, pRd p, pEm p, pOv p), 0, lxP T2 L q, 0) := e1
  obtain ⟨y1, y2, y3, y4⟩ := lx_dig (T := T2) (L := L) (q := len + 1) (x := len + 1) (v := num) (Nat.le_refl _) (by omega) (fun j a b => absurd a (by omega)) g2 (by omega) (by rw [g3]; decide)
  have s2 : tkAny Fl FB kn (lxK T2 L (len + 1)) (lxV T2 L (len + 1)) (pLen p, pB p, pSt p, pTm p, pOp p, 1, sort, pRd p, pEm p, pOv p) = (0, wrP (8 * sort + num) (pLen p, pB p, pSt p, pTm p, pOp p, 0, sort, pRd p, pEm p, pOv p)) := by
    rw [y3, y4]
    unfold tkAny
    rw [if_neg (by decide), if_pos rfl]
    unfold tkNum
    rw [if_pos rfl]
    have hl : ¬ pLt ((pLen p, pB p, pSt p, pTm p, pOp p, 1, sort, pRd p, pEm p, pOv p) : PS) = 6 := by show ¬ sort = 6; omega
    rw [if_neg hl, if_pos hnum, if_neg hl]
    rfl
  have e2 := tkR_s e1 s2
  rw [y2, y3] at e2
  have hw : wrP (8 * sort + num) (pLen p, pB p, pSt p, pTm p, pOp p, 0, sort, pRd p, pEm p, pOv p) = (many + 1, va_up (pB p) many (8 * sort + num), pSt p, pTm p, pOp p, 0, sort, pRd p, 0, 0) := by
    unfold wrP apL apB
    dsimp only [pLen, pB, pSt, pTm, pOp, pWt, pLt, pRd]
    have b1 : p.1 = many := b1
    have hm2 : p.1 < 200 := by omega
    rw [if_pos hm2, if_pos hm2, if_pos hm2, b1]
  rw [hw] at e2
  refine ⟨i + 1 + 1, len + 1 + 1, _, _, e2, by omega, by omega, fun j a b => ?_, ⟨rfl, fun j hj => ?_⟩, ⟨rfl, rfl⟩, ⟨b5, rfl⟩, b7⟩
  · obtain rfl : j = len + 2 := by omega
    exact g3
  · show va_up (pB p) many (8 * sort + num) j = R1 j
    by_cases ej : j = many
    · subst ej; rw [va_up_self, hRm]
    · rw [va_up_ne _ _ ej, hR j (by omega)]; exact b2 j (by omega)
/-- a beat of nothing -/
theorem TXP_dot {T T1 R R1 : Nat → Nat} {len many op em f m : Nat} (h : TXP T len many R op em f m) (hT : ∀ j, j < len → T1 j = T j) (h1 : T1 len = 46) (hm : many < 200) (hR : ∀ j, j < many → R1 j = R j) (hRm : R1 many = 48) : TXP T1 (len + 1) (many + 1) R1 op 0 f m := by
  intro Fl FB kn T2 L p0 h0 hT2 hL
  obtain ⟨i, q, pl, p, e, hi, hq, hb, ⟨b1, b2⟩, ⟨b3, b4⟩, ⟨b5, b6⟩, b7⟩ := h Fl FB kn T2 L p0 h0 (fun j hj => (hT2 j (by omega)).trans (hT j hj)) (by omega)
  have g1 := (hT2 len (by omega)).trans h1
  obtain ⟨x1, x2, x3, x4⟩ := lx_sign (L := L) hq (by omega) hb g1 (by decide) (by decide)
  have x3 : lxK T2 L q = 4 := x3
  have s1 : tkAny Fl FB kn (lxK T2 L q) (lxV T2 L q) p = (0, wrP 48 p) := by
    rw [x3]
    unfold tkAny
    rw [if_neg (by decide), if_neg (by omega), if_neg (by omega)]
    unfold tkItem
    rw [if_neg (by decide), if_neg (by decide), if_pos rfl]
  have e1 := tkR_s e s1
  rw [x2, x3] at e1
  have hw : wrP 48 p = (many + 1, va_up (pB p) many 48, pSt p, pTm p, pOp p, pWt p, pLt p, pRd p, 0, 0) := by
    unfold wrP apL apB
    rw [b1, if_pos hm, if_pos hm, if_pos hm]
  rw [hw] at e1
  refine ⟨i + 1, len + 1, _, _, e1, by omega, by omega, fun j a b => absurd a (by omega), ⟨rfl, fun j hj => ?_⟩, ⟨b3, rfl⟩, ⟨b5, rfl⟩, b7⟩
  show va_up (pB p) many 48 j = R1 j
  by_cases ej : j = many
  · subst ej; rw [va_up_self, hRm]
  · rw [va_up_ne _ _ ej, hR j (by omega)]; exact b2 j (by omega)
/-- a round begins -/
theorem TXP_open {T T1 R : Nat → Nat} {len many em f m x : Nat} (h : TXP T len many R 0 em f m) (hT : ∀ j, j < len → T1 j = T j) (h1 : T1 len = 48 + x) (hx : 1 ≤ x) (hx9 : x < 10) (h2 : T1 (len + 1) = 40) : TXP T1 (len + 2) many R 1 1 many x := by
  intro Fl FB kn T2 L p0 h0 hT2 hL
  obtain ⟨i, q, pl, p, e, hi, hq, hb, ⟨b1, b2⟩, ⟨b3, b4⟩, ⟨b5, b6⟩, b7⟩ := h Fl FB kn T2 L p0 h0 (fun j hj => (hT2 j (by omega)).trans (hT j hj)) (by omega)
  have g1 := (hT2 len (by omega)).trans h1
  have g2 := (hT2 (len + 1) (by omega)).trans h2
  obtain ⟨y1, y2, y3, y4⟩ := lx_dig (T := T2) (L := L) hq (by omega) hb g1 hx9 (by rw [g2]; decide)
  have s1 : tkAny Fl FB kn (lxK T2 L q) (lxV T2 L q) p = (0, (pLen p, pB p, pSt p, pTm p, pOp p, 2, pLt p, x, pEm p, pOv p)) := by
    rw [y3, y4]
    unfold tkAny
    rw [if_neg (by decide), if_neg (by omega), if_neg (by omega)]
    unfold tkItem
    rw [if_neg (by decide), if_pos rfl, if_neg (by omega)]
  have e1 := tkR_s e s1
  rw [y2, y3] at e1
  have e1 : tkR Fl FB kn T2 L p0 (i + 1) = (len + 1, (pLen p, pB p, pSt p, pTm p, pOp p, 2, pLt p, x, pEm p, pOv p), 0, lxP T2 L q, 0) := e1
  obtain ⟨x1, x2, x3, x4⟩ := lx_sign (T := T2) (L := L) (q := len + 1) (x := len + 1) (Nat.le_refl _) (by omega) (fun j a b => absurd a (by omega)) g2 (by decide) (by decide)
  have x3 : lxK T2 L (len + 1) = 2 := x3
  have s2 : tkAny Fl FB kn (lxK T2 L (len + 1)) (lxV T2 L (len + 1)) (pLen p, pB p, pSt p, pTm p, pOp p, 2, pLt p, x, pEm p, pOv p) = (0, opP (pLen p, pB p, pSt p, pTm p, pOp p, 2, pLt p, x, pEm p, pOv p)) := by
    rw [x3]
    unfold tkAny
    rw [if_neg (by decide), if_neg (by show ¬ (2 : Nat) = 1; decide), if_pos rfl]
    unfold tkOpen
    rw [if_pos rfl, if_pos (by show pOp p < 4; omega)]
  have e2 := tkR_s e1 s2
  rw [x2, x3] at e2
  refine ⟨i + 1 + 1, len + 1 + 1, _, _, e2, by omega, by omega, fun j a b => absurd a (by omega), ⟨b1, b2⟩, ⟨rfl, b4⟩, ⟨?_, rfl⟩, fun _ => ⟨?_, ?_⟩⟩
  · show pOp p + 1 = 1
    omega
  · show va_up (pSt p) (pOp p) (pLen p) 0 = many
    rw [b5, va_up_self, b1]
  · show va_up (pTm p) (pOp p) x 0 = x
    rw [b5, va_up_self]
theorem wrL_n {f : Nat → Nat} {fr : Nat} {p : PS} (h0 : pOv p = 0) : ∀ c, pLen p + c ≤ 200 → pOv (wrL f fr p c) = 0 ∧ pLen (wrL f fr p c) = pLen p + c ∧ (∀ j, j < pLen p → pB (wrL f fr p c) j = pB p j) ∧ ∀ j, j < c → pB (wrL f fr p c) (pLen p + j) = f (fr + j)
  | 0, _ => ⟨h0, rfl, fun _ _ => rfl, fun j hj => absurd hj (Nat.not_lt_zero _)⟩
  | c + 1, hc => by
    obtain ⟨i1, i2, i3, i4⟩ := wrL_n (f := f) (fr := fr) h0 c (by omega)
    rw [wrL_s1 i1 (by omega)]
    refine ⟨rfl, ?_, fun j hj => ?_, fun j hj => ?_⟩
    · show apL (pLen (wrL f fr p c)) = pLen p + (c + 1)
      unfold apL
      rw [i2, if_pos (by omega)]
      omega
    · show apB (pB (wrL f fr p c)) (pLen (wrL f fr p c)) (f (fr + c)) j = pB p j
      unfold apB
      rw [i2, if_pos (by omega), va_up_ne _ _ (by omega)]
      exact i3 j hj
    · show apB (pB (wrL f fr p c)) (pLen (wrL f fr p c)) (f (fr + c)) (pLen p + j) = f (fr + j)
      unfold apB
      rw [i2, if_pos (by omega)]
      by_cases e : j = c
      · subst e; rw [va_up_self]
      · rw [va_up_ne _ _ (by omega)]
        exact i4 j (by omega)
theorem clI_n {fr to : Nat} {p : PS} (h0 : pOv p = 0) (hl : pLen p = to) (hf : fr ≤ to) : ∀ c, to + (to - fr) * c ≤ 200 → (pOv (clI fr to p c) = 0 ∧ pLen (clI fr to p c) = to + (to - fr) * c) ∧ (pWt (clI fr to p c) = pWt p ∧ pOp (clI fr to p c) = pOp p) ∧ (0 < c → pEm (clI fr to p c) = 0) ∧ (c = 0 → pEm (clI fr to p c) = pEm p) ∧ (∀ j, j < to → pB (clI fr to p c) j = pB p j) ∧ ∀ j, j < (to - fr) * c → pB (clI fr to p c) (to + j) = pB p (fr + j % (to - fr))
  | 0, _ => ⟨⟨h0, hl⟩, ⟨rfl, rfl⟩, fun h => absurd h (by decide), fun _ => rfl, fun _ _ => rfl, fun j hj => absurd hj (by omega)⟩
  | c + 1, hc => by
    have em : (to - fr) * (c + 1) = (to - fr) * c + (to - fr) := Nat.mul_succ _ _
    obtain ⟨⟨i1, i2⟩, ⟨i3, i4⟩, -, -, i6, i7⟩ := clI_n h0 hl hf c (by omega)
    rw [clI, if_pos i1]
    obtain ⟨w1, w2, w3, w4⟩ := wrL_n (f := pB (clI fr to p c)) (fr := fr) i1 (to - fr) (by omega)
    refine ⟨⟨w1, ?_⟩, ⟨i3, i4⟩, fun _ => rfl, fun h => absurd h (by omega), fun j hj => ?_, fun j hj => ?_⟩
    · show pLen (wrL _ fr _ (to - fr)) = _
      rw [w2, i2]; omega
    · show pB (wrL _ fr _ (to - fr)) j = _
      rw [w3 j (by omega)]; exact i6 j hj
    · show pB (wrL _ fr _ (to - fr)) (to + j) = _
      rcases Nat.lt_or_ge j ((to - fr) * c) with z | z
      · rw [w3 _ (by omega)]; exact i7 j z
      · have q := w4 (j - (to - fr) * c) (by omega)
        rw [i2, show to + (to - fr) * c + (j - (to - fr) * c) = to + j by omega] at q
        rw [q, i6 _ (by omega)]
        have : j % (to - fr) = j - (to - fr) * c := by
          obtain ⟨x, rfl⟩ : ∃ x, j = (to - fr) * c + x := ⟨j - (to - fr) * c, by omega⟩
          rw [Nat.mul_add_mod, Nat.mod_eq_of_lt (by omega)]
          omega
        rw [this]
/-- a round ends -/
theorem TXP_close {T T1 R R1 : Nat → Nat} {len many f m : Nat} (h : TXP T len many R 1 0 f m) (hT : ∀ j, j < len → T1 j = T j) (h1 : T1 len = 41) (hm : 1 ≤ m) (hf : f < many) (hl : many + (many - f) * (m - 1) ≤ 200) (hR : ∀ j, j < many → R1 j = R j) (hR2 : ∀ j, j < (many - f) * (m - 1) → R1 (many + j) = R (f + j % (many - f))) : TXP T1 (len + 1) (many + (many - f) * (m - 1)) R1 0 0 f m := by
  intro Fl FB kn T2 L p0 h0 hT2 hL
  obtain ⟨i, q, pl, p, e, hi, hq, hb, ⟨b1, b2⟩, ⟨b3, b4⟩, ⟨b5, b6⟩, b7⟩ := h Fl FB kn T2 L p0 h0 (fun j hj => (hT2 j (by omega)).trans (hT j hj)) (by omega)
  obtain ⟨b8, b9⟩ := b7 rfl
  have g1 := (hT2 len (by omega)).trans h1
  obtain ⟨x1, x2, x3, x4⟩ := lx_sign (L := L) hq (by omega) hb g1 (by decide) (by decide)
  have x3 : lxK T2 L q = 3 := x3
  have s1 : tkAny Fl FB kn (lxK T2 L q) (lxV T2 L q) p = (0, clP p) := by
    rw [x3]
    unfold tkAny
    rw [if_neg (by decide), if_neg (by omega), if_neg (by omega)]
    unfold tkItem
    rw [if_neg (by decide), if_neg (by decide), if_neg (by decide), if_pos rfl, if_neg (by omega)]
  have e1 := tkR_s e s1
  rw [x2, x3] at e1
  have hcl : clP p = clI f many (opD p) (m - 1) := by
    unfold clP
    rw [b5, show 1 - 1 = 0 from rfl, b8, b9, b1]
  obtain ⟨⟨i1, i2⟩, ⟨i3, i4⟩, i5, i5', i6, i7⟩ := clI_n (p := opD p) (fr := f) (to := many) b4 b1 (by omega) (m - 1) hl
  rw [hcl] at e1
  refine ⟨i + 1, len + 1, _, _, e1, by omega, by omega, fun j a b => absurd a (by omega), ⟨i2, fun j hj => ?_⟩, ⟨i3.trans b3, i1⟩, ⟨?_, ?_⟩, fun h => absurd h (by decide)⟩
  · rcases Nat.lt_or_ge j many with z | z
    · rw [i6 j z, hR j z]; exact b2 j z
    · obtain ⟨x, rfl⟩ : ∃ x, j = many + x := ⟨j - many, by omega⟩
      rw [i7 x (by omega), hR2 x (by omega)]
      have : f + x % (many - f) < many := by
        have := Nat.mod_lt x (show 0 < many - f by omega)
        omega
      exact b2 _ this
  · rw [i4]
    show pOp p - 1 = 0
    omega
  · by_cases z : m - 1 = 0
    · rw [i5' z]; exact b6
    · exact i5 (by omega)
/-- the text's end -/
theorem TXP_end {T R : Nat → Nat} {len many f m : Nat} (h : TXP T len many R 0 0 f m) (hlen : len ≤ 160) {Fl : Nat → Nat} {FB : Nat → Nat → Nat} {kn : Nat} {T2 : Nat → Nat} {p0 : PS} (h0 : ps0 p0) (hT : ∀ j, j < len → T2 j = T j) : tkF (tkR Fl FB kn T2 len p0 161) = 0 ∧ pLen (tkR Fl FB kn T2 len p0 161).2.1 = many ∧ ∀ j, j < many → pB (tkR Fl FB kn T2 len p0 161).2.1 j = R j := by
  obtain ⟨i, q, pl, p, e, hi, hq, hb, ⟨b1, b2⟩, ⟨b3, b4⟩, ⟨b5, b6⟩, -⟩ := h Fl FB kn T2 len p0 h0 hT (Nat.le_refl _)
  obtain ⟨x1, x3⟩ := lx_end (T := T2) hq hb
  have s1 : tkAny Fl FB kn (lxK T2 len q) (lxV T2 len q) p = (0, p) := by
    rw [x3]
    unfold tkAny
    rw [if_neg (by decide), if_neg (by omega), if_neg (by omega)]
    unfold tkItem
    rw [if_neg (by decide), if_neg (by decide), if_neg (by decide), if_neg (by decide), if_pos rfl, if_neg (by omega)]
  have e1 := tkR_s e s1
  rw [x3] at e1
  have e1 : tkR Fl FB kn T2 len p0 (i + 1) = (lxN T2 len q, p, 0, lxP T2 len q, 1) := e1
  have e2 := tkR_f e1 (160 - i)
  rw [show i + 1 + (160 - i) = 161 by omega] at e2
  rw [e2]
  refine ⟨?_, b1, b2⟩
  unfold tkF
  rw [if_neg (fun z => z.2 b4)]
theorem ps0_be (p : PS) : ps0 (beP p) := ⟨⟨rfl, rfl⟩, ⟨rfl, rfl⟩, rfl⟩

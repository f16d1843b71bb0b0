-- a figure done, and back: the weaving is as it was
def tgl (n h a b b0 j : Nat) : Nat := if can n h (pX n a j) (pY n b j) = true then 2 ^ pCr b0 (pX n a j) (pY n b j) else 0
def tgF (n h a b b0 o : Nat) : Nat → Nat
  | 0 => o
  | j + 1 => tgF n h a b b0 o j ^^^ tgl n h a b b0 j
theorem tgl_ag {n h a b b0 i j : Nat} (h4 : 4 ≤ n) (h8 : n ≤ 8) (ha : a < n) (hb : b < n) (hab : a ≠ b) (hb0 : b0 < 2) (hi : i < 4) (hj : j < 4) (hc : can n h (pX n a i) (pY n b i) = true) : (tgl n h a b b0 j).testBit (pAg b0 (pX n a i) (pY n b i)) = false := by
  unfold tgl
  split
  · rw [Nat.testBit_two_pow]
    refine decide_eq_false (fun q => ?_)
    by_cases e : i = j
    · subst e
      have hne := (can_iff.mp hc).1
      rcases (show b0 = 0 ∨ b0 = 1 by omega) with rfl | rfl
      · have q : 8 * pY n b i + pX n a i = 8 * pX n a i + pY n b i := q
        have hX := pX_lt (j := i) h4 ha
        have hY := pY_lt (j := i) h4 hb
        omega
      · have q : 8 * pX n a i + pY n b i = 8 * pY n b i + pX n a i := q
        have hX := pX_lt (j := i) h4 ha
        have hY := pY_lt (j := i) h4 hb
        omega
    · exact (pag_ne n (by omega) h4 a ha b hb hab i hi j hj e b0 hb0).2 q.symm
  · exact Nat.zero_testBit _
theorem tgF_ag {n h a b b0 i o : Nat} (h4 : 4 ≤ n) (h8 : n ≤ 8) (ha : a < n) (hb : b < n) (hab : a ≠ b) (hb0 : b0 < 2) (hi : i < 4) (hc : can n h (pX n a i) (pY n b i) = true) : ∀ k, k ≤ 4 → (tgF n h a b b0 o k).testBit (pAg b0 (pX n a i) (pY n b i)) = o.testBit (pAg b0 (pX n a i) (pY n b i))
  | 0, _ => rfl
  | k + 1, hk => by
    show (tgF n h a b b0 o k ^^^ tgl n h a b b0 k).testBit _ = _
    rw [Nat.testBit_xor, tgl_ag h4 h8 ha hb hab hb0 hi (by omega) hc, Bool.xor_false, tgF_ag h4 h8 ha hb hab hb0 hi hc k (by omega)]
theorem pass_tg {n h a b b0 o : Nat} (h4 : 4 ≤ n) (h8 : n ≤ 8) (ha : a < n) (hb : b < n) (hab : a ≠ b) (hb0 : b0 < 2) (hno : ∀ j, j < 4 → ¬ cgP n h a b b0 o j) : ∀ j, j ≤ 4 → passF n h a b b0 o j = some (tgF n h a b b0 o j)
  | 0, _ => rfl
  | j + 1, hj => by
    have h1 := pass_tg h4 h8 ha hb hab hb0 hno j (by omega)
    by_cases hc : can n h (pX n a j) (pY n b j) = true
    · have e : tgF n h a b b0 o (j + 1) = tgF n h a b b0 o j ^^^ 2 ^ pCr b0 (pX n a j) (pY n b j) := by
        show tgF n h a b b0 o j ^^^ tgl n h a b b0 j = _
        unfold tgl
        rw [if_pos hc]
      rw [e]
      refine passF_go h1 rfl rfl hc rfl (and_pow.mpr ?_) rfl
      rw [tgF_ag h4 h8 ha hb hab hb0 (by omega) hc j (by omega)]
      cases q : o.testBit (pAg b0 (pX n a j) (pY n b j)) with
      | true => exact absurd ⟨hc, q⟩ (hno j (by omega))
      | false => rfl
    · have e : tgF n h a b b0 o (j + 1) = tgF n h a b b0 o j := by
        show tgF n h a b b0 o j ^^^ tgl n h a b b0 j = _
        unfold tgl
        rw [if_neg hc, Nat.xor_zero]
      rw [e]
      exact passF_no h1 rfl rfl hc
theorem pass_ok {n h a b b0 o o1 : Nat} (h4 : 4 ≤ n) (h8 : n ≤ 8) (ha : a < n) (hb : b < n) (hab : a ≠ b) (hb0 : b0 < 2) (h1 : passF n h a b b0 o 4 = some o1) : ∀ j, j < 4 → ¬ cgP n h a b b0 o j := by
  intro j
  induction j using Nat.strongRecOn with
  | ind j ih =>
    intro hj hc
    rw [cg_none h4 h8 ha hb hab hb0 hj (fun i hi => ih i hi (by omega)) hc] at h1
    cases h1
def sgj (j : Nat) : Nat := if j = 1 then 2 else if j = 2 then 1 else j
theorem sgj_lt {j : Nat} (h : j < 4) : sgj j < 4 := by unfold sgj; split <;> (try split) <;> omega
theorem pX_sg {n b j : Nat} (h : j < 4) : pX n b (sgj j) = pY n b j := by
  rcases (show j = 0 ∨ j = 1 ∨ j = 2 ∨ j = 3 by omega) with rfl | rfl | rfl | rfl <;> rfl
theorem pY_sg {n b j : Nat} (h : j < 4) : pY n b (sgj j) = pX n b j := by
  rcases (show j = 0 ∨ j = 1 ∨ j = 2 ∨ j = 3 by omega) with rfl | rfl | rfl | rfl <;> rfl
theorem can_co {n h x y : Nat} (q : can n h x y = true) : can n h y x = true := by
  have q := can_iff.mp q
  exact can_iff.mpr ⟨q.1.symm, q.2.2.1, q.2.1, q.2.2.2.2, q.2.2.2.1⟩
theorem pAg_co {b0 x y : Nat} (h : b0 < 2) : pAg (1 - b0) y x = pAg b0 x y := by
  rcases (show b0 = 0 ∨ b0 = 1 by omega) with rfl | rfl <;> rfl
theorem pCr_co {b0 x y : Nat} (h : b0 < 2) : pCr (1 - b0) y x = pCr b0 x y := by
  rcases (show b0 = 0 ∨ b0 = 1 by omega) with rfl | rfl <;> rfl
theorem tgl_co {n h a b b0 j : Nat} (hb0 : b0 < 2) (hj : j < 4) : tgl n h b a (1 - b0) (sgj j) = tgl n h a b b0 j := by
  unfold tgl
  rw [pX_sg hj, pY_sg hj, pCr_co hb0]
  by_cases q : can n h (pX n a j) (pY n b j) = true
  · rw [if_pos q, if_pos (can_co q)]
  · rw [if_neg q, if_neg (fun z => q (can_co z))]
theorem pass_inv {n h a b b0 o o1 : Nat} (h4 : 4 ≤ n) (h8 : n ≤ 8) (ha : a < n) (hb : b < n) (hab : a ≠ b) (hb0 : b0 < 2) (h1 : passF n h a b b0 o 4 = some o1) : passF n h b a (1 - b0) o1 4 = some o := by
  have hno := pass_ok h4 h8 ha hb hab hb0 h1
  have e1 := pass_tg h4 h8 ha hb hab hb0 hno 4 (Nat.le_refl _)
  rw [h1] at e1
  have e1 := Option.some.inj e1
  have hno2 : ∀ j, j < 4 → ¬ cgP n h b a (1 - b0) o1 j := by
    intro j hj hc
    have e3 : ∃ i, i < 4 ∧ j = sgj i := by
      rcases (show j = 0 ∨ j = 1 ∨ j = 2 ∨ j = 3 by omega) with rfl | rfl | rfl | rfl
      · exact ⟨0, by omega, rfl⟩
      · exact ⟨2, by omega, rfl⟩
      · exact ⟨1, by omega, rfl⟩
      · exact ⟨3, by omega, rfl⟩
    obtain ⟨i, hi, rfl⟩ := e3
    unfold cgP at hc
    rw [pX_sg hi, pY_sg hi, pAg_co hb0] at hc
    have hci := can_co hc.1
    have h2 := hc.2
    rw [e1, tgF_ag h4 h8 ha hb hab hb0 hi hci 4 (Nat.le_refl _)] at h2
    exact hno i hi ⟨hci, h2⟩
  rw [pass_tg h4 h8 hb ha hab.symm (by omega) hno2 4 (Nat.le_refl _), e1]
  congr 1
  have t0 := tgl_co (n := n) (h := h) (a := a) (b := b) hb0 (show 0 < 4 by omega)
  have t1 := tgl_co (n := n) (h := h) (a := a) (b := b) hb0 (show 1 < 4 by omega)
  have t2 := tgl_co (n := n) (h := h) (a := a) (b := b) hb0 (show 2 < 4 by omega)
  have t3 := tgl_co (n := n) (h := h) (a := a) (b := b) hb0 (show 3 < 4 by omega)
  have t0 : tgl n h b a (1 - b0) 0 = tgl n h a b b0 0 := t0
  have t1 : tgl n h b a (1 - b0) 2 = tgl n h a b b0 1 := t1
  have t2 : tgl n h b a (1 - b0) 1 = tgl n h a b b0 2 := t2
  have t3 : tgl n h b a (1 - b0) 3 = tgl n h a b b0 3 := t3
  show tgF n h a b b0 o 4 ^^^ tgl n h b a (1 - b0) 0 ^^^ tgl n h b a (1 - b0) 1 ^^^ tgl n h b a (1 - b0) 2 ^^^ tgl n h b a (1 - b0) 3 = o
  rw [t0, t1, t2, t3]
  show o ^^^ tgl n h a b b0 0 ^^^ tgl n h a b b0 1 ^^^ tgl n h a b b0 2 ^^^ tgl n h a b b0 3 ^^^ tgl n h a b b0 0 ^^^ tgl n h a b b0 2 ^^^ tgl n h a b b0 1 ^^^ tgl n h a b b0 3 = o
  generalize tgl n h a b b0 0 = x0
  generalize tgl n h a b b0 1 = x1
  generalize tgl n h a b b0 2 = x2
  generalize tgl n h a b b0 3 = x3
  apply Nat.eq_of_testBit_eq
  intro k
  simp only [Nat.testBit_xor]
  cases o.testBit k <;> cases x0.testBit k <;> cases x1.testBit k <;> cases x2.testBit k <;> cases x3.testBit k <;> rfl
-- weavings that are the same on their places
def QW (a b : WT) : Prop := wn a = wn b ∧ (∀ p, p < wn a → wd a p = wd b p) ∧ (∀ i, i < wn a → wp a i = wp b i) ∧ wf a = wf b ∧ wh a = wh b ∧ wo a = wo b
theorem QW.rf (a : WT) : QW a a := ⟨rfl, fun _ _ => rfl, fun _ _ => rfl, rfl, rfl, rfl⟩
theorem QW.tr {a b c : WT} (h : QW a b) (k : QW b c) : QW a c := ⟨h.1.trans k.1, fun p hp => (h.2.1 p hp).trans (k.2.1 p (by rw [← h.1]; exact hp)), fun p hp => (h.2.2.1 p hp).trans (k.2.2.1 p (by rw [← h.1]; exact hp)), h.2.2.2.1.trans k.2.2.2.1, h.2.2.2.2.1.trans k.2.2.2.2.1, h.2.2.2.2.2.trans k.2.2.2.2.2⟩
theorem swp_co {n p q : Nat} {f g : Nat → Nat} (hp : p < n) (hq : q < n) (h : ∀ i, i < n → f i = g i) : ∀ i, i < n → swp f p q i = swp g p q i := fun i hi => by
  unfold swp va_up
  by_cases e1 : i = q
  · subst e1; rw [if_pos rfl, if_pos rfl]; exact h p hp
  · rw [if_neg e1, if_neg e1]
    by_cases e2 : i = p
    · subst e2; rw [if_pos rfl, if_pos rfl]; exact h q hq
    · rw [if_neg e2, if_neg e2]; exact h i hi
theorem swp_swp {p q : Nat} (f : Nat → Nat) : swp (swp f p q) p q = f := by
  funext i
  unfold swp va_up
  by_cases e1 : i = q
  · subst e1
    rw [if_pos rfl]
    by_cases e3 : p = i
    · subst e3; rw [if_pos rfl]
    · rw [if_neg e3, if_pos rfl]
  · rw [if_neg e1]
    by_cases e2 : i = p
    · subst e2; rw [if_pos rfl, if_pos rfl]
    · rw [if_neg e2, if_neg e1, if_neg e2]
theorem swp_cm {p q : Nat} (f : Nat → Nat) (h : p ≠ q) : swp f q p = swp f p q := by
  funext i
  unfold swp va_up
  by_cases e1 : i = p
  · subst e1
    rw [if_pos rfl, if_neg h, if_pos rfl]
  · rw [if_neg e1]
    by_cases e2 : i = q
    · subst e2; rw [if_pos rfl, if_pos rfl]
    · rw [if_neg e2, if_neg e2, if_neg e1]
theorem swp_p {p q : Nat} (f : Nat → Nat) (h : p ≠ q) : swp f p q p = f q := by unfold swp va_up; rw [if_neg h, if_pos rfl]
theorem swp_q {p q : Nat} (f : Nat → Nat) : swp f p q q = f p := by unfold swp va_up; rw [if_pos rfl]
theorem chgN_co {w v : WT} {S K : Nat} (hw : WOK w) (h : QW w v) (hS : S ≤ 3) (hK : K < (if S = 3 then 8 else wn w)) : (chgN w S K).1 = (chgN v S K).1 ∧ QW (chgN w S K).2 (chgN v S K).2 := by
  obtain ⟨n, d, p, f, hh, o⟩ := w
  obtain ⟨n', d', p', f', hh', o'⟩ := v
  obtain ⟨e1, e2, e3, e4, e5, e6⟩ := h
  dsimp only [wn, wd, wp, wf, wh, wo] at e1 e2 e3 e4 e5 e6 hK
  subst e1 e4 e5 e6
  obtain ⟨⟨h4, h8⟩, hp, -⟩ := hw
  dsimp only [wn, wd, wp] at h4 h8 hp
  unfold chgN
  dsimp only [wn, wd, wp, wf, wh, wo]
  by_cases c1 : S < 2
  · rw [if_pos c1, if_pos c1]
    rw [if_neg (by omega)] at hK
    have hnx := nx_lt h4 hK
    have ew : wPass (n, d', p', f, hh, o) K S = wPass (n, d, p, f, hh, o) K S := by
      unfold wPass
      dsimp only [wn, wd, wp, wf, wh, wo]
      rw [e2 K hK, e2 _ hnx]
    rw [ew]
    refine ⟨rfl, rfl, fun i hi => ?_, fun i hi => ?_, rfl, rfl, rfl⟩
    · dsimp only [wn, wd, wp, wf, wh, wo]
      split
      · exact swp_co hK hnx e2 i hi
      · exact e2 i hi
    · dsimp only [wn, wd, wp, wf, wh, wo]
      split
      · rw [← e2 K hK, ← e2 _ hnx]
        exact swp_co (hp.1 K hK) (hp.1 _ hnx) e3 i hi
      · exact e3 i hi
  · rw [if_neg c1, if_neg c1]
    by_cases c2 : S = 2
    · rw [if_pos c2, if_pos c2]
      rw [if_neg (by omega)] at hK
      refine ⟨rfl, rfl, e2, e3, ?_, rfl, rfl⟩
      show f ^^^ 2 ^ d K = f ^^^ 2 ^ d' K
      rw [e2 K hK]
    · rw [if_neg c2, if_neg c2, if_pos (show S = 3 by omega), if_pos (show S = 3 by omega)]
      refine ⟨rfl, rfl, fun i hi => e2 _ (Nat.mod_lt _ (by omega)), fun i hi => ?_, rfl, rfl, rfl⟩
      show (p i + _) % n = (p' i + _) % n
      rw [e3 i hi]
theorem rt_1 {n d d2 p : Nat} (hd : d < n) (h2 : d2 = if d = 0 then 0 else n - d) (hp : p < n) : (((p + n - d2) % n) + n - d) % n = p := by
  by_cases e : d = 0
  · subst e
    rw [if_pos rfl] at h2
    subst h2
    rw [show p + n - 0 = p + n by omega, Nat.add_mod_right, Nat.mod_eq_of_lt hp, show p + n - 0 = p + n by omega, Nat.add_mod_right, Nat.mod_eq_of_lt hp]
  · rw [if_neg e] at h2
    subst h2
    rw [show p + n - (n - d) = p + d by omega]
    by_cases c : p + d < n
    · rw [Nat.mod_eq_of_lt c, show p + d + n - d = p + n by omega, Nat.add_mod_right, Nat.mod_eq_of_lt hp]
    · have : (p + d) % n = p + d - n := by rw [Nat.mod_eq_sub_mod (by omega), Nat.mod_eq_of_lt (by omega)]
      rw [this, show p + d - n + n - d = p by omega, Nat.mod_eq_of_lt hp]
theorem rt_2 {n d d2 p : Nat} (hd : d < n) (h2 : d2 = if d = 0 then 0 else n - d) (hp : p < n) : ((p + d) % n + d2) % n = p := by
  by_cases e : d = 0
  · subst e
    rw [if_pos rfl] at h2
    subst h2
    rw [Nat.add_zero, Nat.add_zero, Nat.mod_eq_of_lt hp, Nat.mod_eq_of_lt hp]
  · rw [if_neg e] at h2
    subst h2
    by_cases c : p + d < n
    · rw [Nat.mod_eq_of_lt c, show p + d + (n - d) = p + n by omega, Nat.add_mod_right, Nat.mod_eq_of_lt hp]
    · have : (p + d) % n = p + d - n := by rw [Nat.mod_eq_sub_mod (by omega), Nat.mod_eq_of_lt (by omega)]
      rw [this, show p + d - n + (n - d) = p by omega, Nat.mod_eq_of_lt hp]
/-- an act, and it turned about -/
theorem chgN_inv {w : WT} {S K : Nat} (hw : WOK w) (hS : S ≤ 3) (hK : K < (if S = 3 then 8 else wn w)) (h1 : (chgN w S K).1 = 1) : (chgN (chgN w S K).2 (sbk S) (nbk (wn w) S K)).1 = 1 ∧ QW (chgN (chgN w S K).2 (sbk S) (nbk (wn w) S K)).2 w := by
  obtain ⟨n, d, p, f, hh, o⟩ := w
  obtain ⟨⟨h4, h8⟩, hp, -⟩ := hw
  dsimp only [wn, wd, wp] at h4 h8 hp hK
  have hp' := hp
  obtain ⟨p1, p2, p3, p4⟩ := hp
  by_cases c1 : S < 2
  · rw [if_neg (by omega)] at hK
    have hnx := nx_lt h4 hK
    have hab : d K ≠ d (nx n K) := fun e => nx_ne h4 hK ((p4 K hK).symm.trans ((congrArg p e).trans (p4 _ hnx)))
    cases q : wPass (n, d, p, f, hh, o) K S with
    | none =>
      unfold chgN at h1
      rw [if_pos c1, q] at h1
      exact absurd (show (-5 : Int32) = 1 from h1) (by decide)
    | some o1 =>
      have e : (chgN (n, d, p, f, hh, o) S K).2 = (n, swp d K (nx n K), swp p (d K) (d (nx n K)), f, hh, o1) := by
        unfold chgN
        rw [if_pos c1, q]
        rfl
      have es : sbk S = 1 - S := by
        rcases (show S = 0 ∨ S = 1 by omega) with rfl | rfl <;> rfl
      have en : nbk n S K = K := if_neg (by omega)
      rw [e]
      show (chgN _ (sbk S) (nbk n S K)).1 = 1 ∧ QW (chgN _ (sbk S) (nbk n S K)).2 _
      rw [es, en]
      have q2 : passF n hh (d K) (d (nx n K)) S o 4 = some o1 := q
      have inv := pass_inv h4 h8 (p1 K hK) (p1 _ hnx) hab c1 q2
      have ew : wPass (n, swp d K (nx n K), swp p (d K) (d (nx n K)), f, hh, o1) K (1 - S) = some o := by
        unfold wPass
        dsimp only [wn, wd, wp, wf, wh, wo]
        rw [swp_p _ (nx_ne h4 hK), swp_q]
        exact inv
      have e2 : chgN (n, swp d K (nx n K), swp p (d K) (d (nx n K)), f, hh, o1) (1 - S) K = (1, (n, swp (swp d K (nx n K)) K (nx n K), swp (swp p (d K) (d (nx n K))) (d (nx n K)) (d K), f, hh, o)) := by
        unfold chgN
        rw [if_pos (by omega), ew]
        dsimp only [wn, wd, wp, wf, wh, wo]
        rw [swp_p _ (nx_ne h4 hK), swp_q]
        rfl
      rw [e2, swp_swp, swp_cm _ hab, swp_swp]
      exact ⟨rfl, QW.rf _⟩
  · by_cases c2 : S = 2
    · subst c2
      refine ⟨rfl, rfl, fun _ _ => rfl, fun _ _ => rfl, ?_, rfl, rfl⟩
      show (f ^^^ 2 ^ d K) ^^^ 2 ^ d K = f
      rw [Nat.xor_assoc, Nat.xor_self, Nat.xor_zero]
    · obtain rfl : S = 3 := by omega
      have hK : K < 8 := hK
      have hr : wr n K < n := by unfold wr; split <;> omega
      have e1 : wr n K % n = wr n K := Nat.mod_eq_of_lt hr
      have e2 : nbk n 3 K = if wr n K = 0 then 0 else n - wr n K := by
        show wr n (n - wr n K) = _
        generalize wr n K = d0 at hr
        unfold wr
        split <;> split <;> omega
      have e3 : nbk n 3 K < n := by rw [e2]; split <;> omega
      have e4 : wr n (nbk n 3 K) % n = if wr n K = 0 then 0 else n - wr n K := by
        rw [← e2]
        have : wr n (nbk n 3 K) = nbk n 3 K := by
          show (if nbk n 3 K < n then nbk n 3 K else _) = _
          exact if_pos e3
        rw [this]
        exact Nat.mod_eq_of_lt e3
      refine ⟨rfl, rfl, fun i hi => ?_, fun i hi => ?_, rfl, rfl, rfl⟩
      · show d ((((i + n - wr n (nbk n 3 K) % n) % n) + n - wr n K % n) % n) = d i
        rw [e1, rt_1 hr e4 hi]
      · show ((p i + wr n K % n) % n + wr n (nbk n 3 K) % n) % n = p i
        rw [e1, rt_2 hr e4 (p2 i hi)]
-- beats
theorem nI_jn {a b : Nat} (ha : a < 2 ^ 31) (hb : b < 2 ^ 31) (h : nI a = nI b) : a = b := (nI_eq ha hb).mp h
theorem chg_1 {w : WT} {S K : Nat} (hw : WOK w) (hS : S ≤ 5) (hK : K < 8) (h : (chg w (nI S) (nI K)).1 = 1) : K < (if S = 3 then 8 else wn w) ∧ chg w (nI S) (nI K) = chgN w S K := by
  rcases isA_dec (wn w) (nI S) (nI K) with q | q
  · obtain ⟨S', K', h1, h2, h3, h4⟩ := isA_nat hw.1.2 q
    obtain rfl : S = S' := nI_jn (by omega) (by omega) h3
    have h2' : K' < 8 := by have := hw.1.2; split at h2 <;> omega
    obtain rfl : K = K' := nI_jn (by omega) (by omega) h4
    exact ⟨h2, chg_yes hS h2 hw⟩
  · rw [chg_no q] at h
    exact absurd (show (-1 : Int32) = 1 from h) (by decide)
theorem beat_inv {bt : Nat} {F G : FS} (hF : WOK F.1) (hG : WOK G.1) (hb : bt / 8 ≤ 3 ∨ bt / 8 = 6) (h1 : (beatF 0 bt F).1 = 1) (hq : QW G.1 (beatF 0 bt F).2.1) : (beatF 1 bt G).1 = 1 ∧ QW (beatF 1 bt G).2.1 F.1 := by
  by_cases c6 : bt / 8 = 6
  · rw [bt_f6 c6] at hq
    rw [bt_b6 (by decide) c6]
    exact ⟨rfl, hq⟩
  · have c3 : bt / 8 ≤ 3 := by omega
    rw [bt_fa c6] at h1 hq
    rw [bt_ba (by decide) (by omega) (by omega) c6]
    have h1 : (chg F.1 (nI (bt / 8)) (nI (bt % 8))).1 = 1 := h1
    have hq : QW G.1 (chg F.1 (nI (bt / 8)) (nI (bt % 8))).2 := hq
    obtain ⟨hK, e⟩ := chg_1 hF (by omega) (Nat.mod_lt _ (by omega)) h1
    rw [e] at h1 hq
    have iv := chgN_inv hF c3 hK h1
    have hwn : wn G.1 = wn F.1 := hq.1.trans (chgN_ok hF (by omega) hK).2
    have h4 := hF.1
    have hs : sbk (bt / 8) ≤ 3 ∧ (sbk (bt / 8) = 3 ↔ bt / 8 = 3) := by unfold sbk; split <;> (try split) <;> omega
    have hk : nbk (wn F.1) (bt / 8) (bt % 8) < (if sbk (bt / 8) = 3 then 8 else wn G.1) := by
      by_cases e3 : bt / 8 = 3
      · rw [if_pos (hs.2.mpr e3)]
        rw [if_pos e3] at hK
        unfold nbk
        rw [if_pos e3]
        unfold wr
        split <;> split <;> omega
      · rw [if_neg (fun z => e3 (hs.2.mp z)), hwn]
        rw [if_neg e3] at hK
        unfold nbk
        rw [if_neg e3]
        exact hK
    have co := chgN_co hG hq hs.1 hk
    show (chg G.1 (nI (sbk (bt / 8))) (nI (nbk (wn G.1) (bt / 8) (bt % 8)))).1 = 1 ∧ QW (chg G.1 (nI (sbk (bt / 8))) (nI (nbk (wn G.1) (bt / 8) (bt % 8)))).2 F.1
    rw [hwn, chg_yes (by omega) hk hG]
    exact ⟨co.1.trans iv.1, co.2.tr iv.2⟩
theorem attF_ne {s k : Int32} {F : FS} : ¬ (attF s k F).1 = 0 := chg_ne
theorem beatF_n0 {b0 bt : Nat} {F : FS} : ¬ (beatF b0 bt F).1 = 0 := by
  by_cases h0 : b0 = 0
  · subst h0
    by_cases c6 : bt / 8 = 6
    · rw [bt_f6 c6]; show ¬ (1 : Int32) = 0; decide
    · rw [bt_fa c6]; exact attF_ne
  · by_cases c4 : bt / 8 = 4 ∨ bt / 8 = 5
    · rw [bt_b4 h0 c4]; show ¬ (-2 : Int32) = 0; decide
    · by_cases c6 : bt / 8 = 6
      · rw [bt_b6 h0 c6]; show ¬ (1 : Int32) = 0; decide
      · rw [bt_ba h0 (by omega) (by omega) c6]; exact attF_ne
theorem rn_dn {B : Nat → Nat} {len b0 j : Nat} {F : FS} (h : (rn B len b0 F (j + 1)).2.1 = 0) : (rn B len b0 F j).2.1 = 0 ∧ (beatF b0 (B (bix len b0 j)) (rn B len b0 F j).2.2).1 = 1 ∧ (rn B len b0 F (j + 1)).2.2 = (beatF b0 (B (bix len b0 j)) (rn B len b0 F j).2.2).2 ∧ (rn B len b0 F (j + 1)).1 = (rn B len b0 F j).1 + 1 := by
  obtain ⟨X, hX⟩ : ∃ X, rn B len b0 F j = X := ⟨_, rfl⟩
  obtain ⟨Y, hY⟩ : ∃ Y, beatF b0 (B (bix len b0 j)) X.2.2 = Y := ⟨_, rfl⟩
  have hY0 : ¬ Y.1 = 0 := by rw [← hY]; exact beatF_n0
  rw [rn_step hX hY] at h ⊢
  rw [hX, hY]
  by_cases c1 : X.2.1 = 0
  · rw [if_pos c1] at h ⊢
    by_cases c2 : Y.1 = 1
    · rw [if_pos c2]; exact ⟨c1, c2, rfl, rfl⟩
    · rw [if_neg c2] at h; exact absurd h hY0
  · rw [if_neg c1] at h; exact absurd h c1
theorem rn_up {B : Nat → Nat} {len b0 j : Nat} {F : FS} (h : (rn B len b0 F j).2.1 = 0) (hb : (beatF b0 (B (bix len b0 j)) (rn B len b0 F j).2.2).1 = 1) : rn B len b0 F (j + 1) = ((rn B len b0 F j).1 + 1, 0, (beatF b0 (B (bix len b0 j)) (rn B len b0 F j).2.2).2) := by
  rw [rn_step rfl rfl, if_pos h, if_pos hb]
theorem rn_dn' {B : Nat → Nat} {len b0 m : Nat} {F : FS} (h : (rn B len b0 F m).2.1 = 0) : ∀ d, d ≤ m → (rn B len b0 F (m - d)).2.1 = 0
  | 0, _ => h
  | d + 1, hd => by
    have ih := rn_dn' h d (by omega)
    rw [show m - d = (m - (d + 1)) + 1 by omega] at ih
    exact (rn_dn ih).1
theorem rn_cnt {B : Nat → Nat} {len b0 : Nat} {F : FS} : ∀ j, (rn B len b0 F j).2.1 = 0 → (rn B len b0 F j).1 = j
  | 0, _ => rfl
  | j + 1, h => by
    have q := rn_dn h
    rw [q.2.2.2, rn_cnt j q.1]
theorem rn_inv {B : Nat → Nat} {len : Nat} {F G : FS} (hF : FOK F) (hG : FOK G) (hB : ∀ i, i < len → B i / 8 ≤ 3 ∨ B i / 8 = 6) (h : (rn B len 0 F len).2.1 = 0) (hq : QW G.1 (rn B len 0 F len).2.2.1) : ∀ j, j ≤ len → (rn B len 1 G j).2.1 = 0 ∧ QW (rn B len 1 G j).2.2.1 (rn B len 0 F (len - j)).2.2.1
  | 0, _ => ⟨rfl, hq⟩
  | j + 1, hj => by
    obtain ⟨i1, i2⟩ := rn_inv hF hG hB h hq j (by omega)
    have e : len - j = (len - (j + 1)) + 1 := by omega
    have h2 := rn_dn' h j (by omega)
    rw [e] at h2 i2
    have q := rn_dn h2
    have eb : bix len 0 (len - (j + 1)) = len - (j + 1) := if_pos rfl
    have eb1 : bix len 1 j = len - (j + 1) := by
      show (if (1 : Nat) = 0 then j else len - 1 - j) = _
      rw [if_neg (by decide)]
      omega
    rw [eb] at q
    rw [q.2.2.1] at i2
    have iv := beat_inv (rn_ok hF (len - (j + 1))).1.1 (rn_ok hG j).1.1 (hB _ (by omega)) q.2.1 i2
    have hb1 : (beatF 1 (B (bix len 1 j)) (rn B len 1 G j).2.2).1 = 1 := by rw [eb1]; exact iv.1
    rw [rn_up i1 hb1, eb1]
    exact ⟨rfl, iv.2⟩
theorem rn_B {B B2 : Nat → Nat} {len b0 : Nat} {F : FS} (h : ∀ i, i < len → B i = B2 i) : ∀ j, j ≤ len → rn B len b0 F j = rn B2 len b0 F j
  | 0, _ => rfl
  | j + 1, hj => by
    have ih := rn_B (b0 := b0) (F := F) h j (by omega)
    have hb : bix len b0 j < len := by unfold bix; split <;> omega
    rw [rn_step (B := B) rfl rfl, rn_step (B := B2) rfl rfl, ih, h _ hb]

/-- a weaving: dancers, who is on a place, the place of one, who faces in, held blades, who lies over whom -/
abbrev WT : Type := Nat × (Nat → Nat) × (Nat → Nat) × Nat × Nat × Nat
abbrev wn (w : WT) : Nat := w.1
abbrev wd (w : WT) : Nat → Nat := w.2.1
abbrev wp (w : WT) : Nat → Nat := w.2.2.1
abbrev wf (w : WT) : Nat := w.2.2.2.1
abbrev wh (w : WT) : Nat := w.2.2.2.2.1
abbrev wo (w : WT) : Nat := w.2.2.2.2.2
/-- the bits of n blades -/
def OB (n o : Nat) : Prop := o < 2 ^ 64 ∧ ∀ k, o.testBit k = true → k / 8 < n ∧ k % 8 < n
def WOK (w : WT) : Prop := (4 ≤ wn w ∧ wn w ≤ 8) ∧ Perm (wn w) (wd w) (wp w) ∧ wf w < 2 ^ wn w ∧ wh w < 2 ^ wn w ∧ OB (wn w) (wo w)
theorem lt256 {a n : Nat} (h : a < 2 ^ n) (hn : n ≤ 8) : a < 256 := Nat.lt_of_lt_of_le h (Nat.pow_le_pow_right (n := 2) (by omega) hn)
theorem swp_perm {n p q : Nat} {da pl : Nat → Nat} (h : Perm n da pl) (hp : p < n) (hq : q < n) (hpq : p ≠ q) : Perm n (swp da p q) (swp pl (da p) (da q)) := by
  obtain ⟨h1, h2, h3, h4⟩ := h
  have hne : da p ≠ da q := fun e => hpq (by rw [← h4 p hp, ← h4 q hq, e])
  refine ⟨swp_lt h1 hp hq, swp_lt h2 (h1 p hp) (h1 q hq), fun i hi => ?_, fun r hr => ?_⟩
  · unfold swp va_up
    rw [h4 p hp, h4 q hq]
    by_cases e1 : i = da q
    · subst e1
      rw [if_pos rfl, if_neg hpq, if_pos rfl]
    · by_cases e2 : i = da p
      · subst e2
        rw [if_neg hne, if_pos rfl, if_pos rfl]
      · rw [if_neg e1, if_neg e2, if_neg (fun e => e1 (by rw [← h3 i hi, e])), if_neg (fun e => e2 (by rw [← h3 i hi, e]))]
        exact h3 i hi
  · unfold swp va_up
    rw [h4 p hp, h4 q hq]
    by_cases e1 : r = q
    · subst e1
      rw [if_pos rfl, if_neg hne, if_pos rfl]
    · by_cases e2 : r = p
      · subst e2
        rw [if_neg hpq, if_pos rfl, if_pos rfl]
      · rw [if_neg e1, if_neg e2, if_neg (fun e => e1 (by rw [← h4 r hr, ← h4 q hq, e])), if_neg (fun e => e2 (by rw [← h4 r hr, ← h4 p hp, e]))]
        exact h4 r hr
def pls (n d : Nat) (pl : Nat → Nat) : Nat → Nat := fun i => (pl i + d) % n
theorem rot_perm {n d : Nat} {da pl : Nat → Nat} (h : Perm n da pl) (hn : 0 < n) (hd : d < n) : Perm n (rot n d da) (pls n d pl) := by
  obtain ⟨h1, h2, h3, h4⟩ := h
  have ma : ∀ a, a < n → ((a + d) % n + n - d) % n = a := fun a ha => by
    by_cases e : a + d < n
    · rw [Nat.mod_eq_of_lt e, show a + d + n - d = a + n by omega, Nat.add_mod_right, Nat.mod_eq_of_lt ha]
    · have : (a + d) % n = a + d - n := by
        rw [Nat.mod_eq_sub_mod (by omega), Nat.mod_eq_of_lt (by omega)]
      rw [this, show a + d - n + n - d = a by omega, Nat.mod_eq_of_lt ha]
  have mb : ∀ a, a < n → ((a + n - d) % n + d) % n = a := fun a ha => by
    by_cases e : d ≤ a
    · have : (a + n - d) % n = a - d := by
        rw [show a + n - d = a - d + n by omega, Nat.add_mod_right, Nat.mod_eq_of_lt (by omega)]
      rw [this, show a - d + d = a by omega, Nat.mod_eq_of_lt ha]
    · have : (a + n - d) % n = a + n - d := Nat.mod_eq_of_lt (by omega)
      rw [this, show a + n - d + d = a + n by omega, Nat.add_mod_right, Nat.mod_eq_of_lt ha]
  refine ⟨fun p hp => h1 _ (Nat.mod_lt _ hn), fun i hi => Nat.mod_lt _ hn, fun i hi => ?_, fun p hp => ?_⟩
  · show da ((((pl i + d) % n) + n - d) % n) = i
    rw [ma _ (h2 i hi)]; exact h3 i hi
  · show (pl (da ((p + n - d) % n)) + d) % n = p
    rw [h4 _ (Nat.mod_lt _ hn)]; exact mb p hp
/-- the acts on a weaving: an answer, and what it is then -/
def bsd (n : Nat) (pl : Nat → Nat) (i : Nat) : Bool := decide (su n (pl i) (pl (nx n i)) = 1) || decide (su n (pl i) (pl (nx n i)) = n - 1)
def wPass (w : WT) (K b0 : Nat) : Option Nat := passF (wn w) (wh w) (wd w K) (wd w (nx (wn w) K)) b0 (wo w) 4
def chgN (w : WT) (S K : Nat) : Int32 × WT :=
  if S < 2 then (pR (wPass w K S), (wn w, if (wPass w K S).isSome = true then swp (wd w) K (nx (wn w) K) else wd w, if (wPass w K S).isSome = true then swp (wp w) (wd w K) (wd w (nx (wn w) K)) else wp w, wf w, wh w, (wPass w K S).getD (wo w)))
  else if S = 2 then (1, (wn w, wd w, wp w, wf w ^^^ 2 ^ wd w K, wh w, wo w))
  else if S = 3 then (1, (wn w, rot (wn w) (wr (wn w) K % wn w) (wd w), pls (wn w) (wr (wn w) K % wn w) (wp w), wf w, wh w, wo w))
  else if S = 4 then (if (wh w).testBit K = true then (1, (wn w, wd w, wp w, wf w, an (wh w) (2 ^ K), an (wo w) (rc K))) else (-2, w))
  else (if (wh w).testBit K = false ∧ bsd (wn w) (wp w) K = true then (1, (wn w, wd w, wp w, wf w, wh w ||| 2 ^ K, wo w)) else (-2, w))
def isA (n : Nat) (s k : Int32) : Prop := (0 ≤ s ∧ s ≤ 5) ∧ 0 ≤ k ∧ k < nI (if s = 3 then 8 else n)
theorem isA_dec (n : Nat) (s k : Int32) : isA n s k ∨ ¬ isA n s k := Classical.em _
noncomputable def chg (w : WT) (s k : Int32) : Int32 × WT := by
  classical
  exact if isA (wn w) s k then chgN w s.toNatClampNeg k.toNatClampNeg else (-1, w)
theorem chg_no {w : WT} {s k : Int32} (h : ¬ isA (wn w) s k) : chg w s k = (-1, w) := by unfold chg; exact if_neg h
theorem chg_yes {w : WT} {S K : Nat} (hS : S ≤ 5) (hK : K < (if S = 3 then 8 else wn w)) (hw : WOK w) : chg w (nI S) (nI K) = chgN w S K := by
  have hn := hw.1
  have hK2 : K < 2 ^ 31 := by split at hK <;> omega
  have e3 : (nI S = 3) ↔ S = 3 := by rw [show (3 : Int32) = nI 3 from rfl]; exact nI_eq (by omega) (by omega)
  have ha : isA (wn w) (nI S) (nI K) := by
    refine ⟨⟨nI_pos' (by omega), nI_le (b := 5) (by omega) (by omega)⟩, nI_pos' hK2, ?_⟩
    by_cases h3 : S = 3
    · rw [if_pos (e3.mpr h3)]; rw [if_pos h3] at hK; exact nI_lt hK (by omega)
    · rw [if_neg (fun q => h3 (e3.mp q))]; rw [if_neg h3] at hK; exact nI_lt hK (by omega)
  unfold chg
  rw [if_pos ha, nI_clamp (by omega), nI_clamp hK2]
theorem isA_nat {n : Nat} {s k : Int32} (hn : n ≤ 8) (h : isA n s k) : ∃ S K, S ≤ 5 ∧ K < (if S = 3 then 8 else n) ∧ s = nI S ∧ k = nI K := by
  obtain ⟨⟨h1, h2⟩, h3, h4⟩ := h
  obtain ⟨S, hS, rfl⟩ := nI_of2 (M := 5) (n := 5) rfl (Int32.not_lt.mpr h1) h2
  obtain ⟨K, hK, rfl⟩ := nI_of (Int32.not_lt.mpr h3)
  have e3 : (nI S = 3) ↔ S = 3 := by rw [show (3 : Int32) = nI 3 from rfl]; exact nI_eq (by omega) (by omega)
  refine ⟨S, K, hS, ?_, rfl, rfl⟩
  by_cases h : S = 3
  · rw [if_pos (e3.mpr h)] at h4; rw [if_pos h]; exact (nI_ltI hK (by omega)).mp h4
  · rw [if_neg (fun q => h (e3.mp q))] at h4; rw [if_neg h]; exact (nI_ltI hK (by omega)).mp h4
theorem passF_ob {n h a b b0 o : Nat} (hn : 4 ≤ n) (hn8 : n ≤ 8) (ha : a < n) (hb : b < n) (ho : OB n o) : ∀ (j : Nat) (o1 : Nat), passF n h a b b0 o j = some o1 → OB n o1
  | 0, o1, e => by cases e; exact ho
  | j + 1, o1, e => by
    rw [passF] at e
    cases q : passF n h a b b0 o j with
    | none => rw [q] at e; cases e
    | some o2 =>
      rw [q] at e
      have h2 := passF_ob hn hn8 ha hb ho j o2 q
      have e2 : passS n h a b b0 j o2 = some o1 := e
      unfold passS at e2
      split at e2
      · split at e2
        · cases e2
        · cases e2
          have hX := pX_lt (j := j) hn ha
          have hY := pY_lt (j := j) hn hb
          have hc := pcr_lt (b0 := b0) (x := pX n a j) (y := pY n b j) (by omega) (by omega)
          refine ⟨Nat.xor_lt_two_pow h2.1 (p64' hc), fun k hk => ?_⟩
          rw [Nat.testBit_xor, Nat.testBit_two_pow] at hk
          by_cases e : pCr b0 (pX n a j) (pY n b j) = k
          · rw [← e]; unfold pCr; split <;> omega
          · simp only [e, decide_false, Bool.xor_false] at hk
            exact h2.2 k hk
      · cases e2; exact h2
theorem an_ob {n o m : Nat} (h : OB n o) : OB n (an o m) := ⟨an_le _ _ h.1, fun k hk => by
  rw [an_tb] at hk
  exact h.2 k (by revert hk; cases o.testBit k <;> simp)⟩
theorem wPass_ok {w : WT} {K b0 : Nat} (hw : WOK w) (hK : K < wn w) : OB (wn w) ((wPass w K b0).getD (wo w)) := by
  obtain ⟨⟨h4, h8⟩, hp, hf, hh, ho⟩ := hw
  cases q : wPass w K b0 with
  | none => exact ho
  | some o1 => exact passF_ob h4 h8 (hp.1 K hK) (hp.1 _ (nx_lt h4 hK)) ho 4 o1 q
theorem chgN_ok {w : WT} {S K : Nat} (hw : WOK w) (hS : S ≤ 5) (hK : K < (if S = 3 then 8 else wn w)) : WOK (chgN w S K).2 ∧ wn (chgN w S K).2 = wn w := by
  have hw0 := hw
  obtain ⟨⟨h4, h8⟩, hp, hf, hh, ho⟩ := hw
  unfold chgN
  split
  · rw [if_neg (by omega)] at hK
    refine ⟨⟨⟨h4, h8⟩, ?_, hf, hh, wPass_ok hw0 hK⟩, rfl⟩
    show Perm _ (if (wPass w K S).isSome = true then swp (wd w) K (nx (wn w) K) else wd w) (if (wPass w K S).isSome = true then swp (wp w) (wd w K) (wd w (nx (wn w) K)) else wp w)
    split
    · exact swp_perm hp hK (nx_lt h4 hK) (nx_ne h4 hK)
    · exact hp
  · split
    · rw [if_neg (by omega)] at hK
      refine ⟨⟨⟨h4, h8⟩, hp, Nat.xor_lt_two_pow hf ?_, hh, ho⟩, rfl⟩
      exact Nat.pow_lt_pow_right (by omega) (hp.1 K hK)
    · split
      · have h0 : 0 < wn w := Nat.lt_of_lt_of_le (by decide) h4
        exact ⟨⟨⟨h4, h8⟩, rot_perm hp h0 (Nat.mod_lt _ h0), hf, hh, ho⟩, rfl⟩
      · split
        · split
          · exact ⟨⟨⟨h4, h8⟩, hp, hf, an_le _ _ hh, an_ob ho⟩, rfl⟩
          · exact ⟨hw0, rfl⟩
        · split
          · rw [if_neg (by omega)] at hK
            exact ⟨⟨⟨h4, h8⟩, hp, hf, Nat.or_lt_two_pow hh (Nat.pow_lt_pow_right (by omega) hK), ho⟩, rfl⟩
          · exact ⟨hw0, rfl⟩
theorem chg_ok {w : WT} {s k : Int32} (hw : WOK w) : WOK (chg w s k).2 ∧ wn (chg w s k).2 = wn w := by
  by_cases h : isA (wn w) s k
  · obtain ⟨S, K, hS, hK, rfl, rfl⟩ := isA_nat hw.1.2 h
    rw [chg_yes hS hK hw]
    exact chgN_ok hw hS hK
  · rw [chg_no h]; exact ⟨hw, rfl⟩


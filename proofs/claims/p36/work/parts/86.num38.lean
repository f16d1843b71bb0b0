-- the reference's acts and the weaving's
theorem perm_P {w : WT} {P : Nat → Nat} (hw : WOK w) (h : ∀ i, i < wn w → P i = wp w i) : Perm (wn w) (wd w) P := by
  obtain ⟨h1, h2, h3, h4⟩ := hw.2.1
  exact ⟨h1, fun i hi => by rw [h i hi]; exact h2 i hi, fun i hi => by rw [h i hi]; exact h3 i hi, fun p hp => by rw [h _ (h1 p hp)]; exact h4 p hp⟩
theorem bF {b : Bool} (h : ¬ b = true) : b = false := by cases b <;> simp_all
noncomputable def dsR (w : WT) (S K : Nat) : Int32 × WT := chg w (nI (if S = 7 then 3 else S)) (nI (if S = 7 then nbk (wn w) 3 K else K))
theorem dsR_c {w : WT} {S K : Nat} (h7 : S ≠ 7) : dsR w S K = chg w (nI S) (nI K) := by unfold dsR; rw [if_neg h7, if_neg h7]
theorem dsR_y {w : WT} {S K : Nat} (hS : S ≤ 5) (hK : K < (if S = 3 then 8 else wn w)) (hw : WOK w) : dsR w S K = chgN w S K := by
  rw [dsR_c (by omega)]; exact chg_yes hS hK hw
theorem nbk_lt {n K : Nat} (h4 : 4 ≤ n) (h8 : n ≤ 8) (hK : K < 8) : nbk n 3 K < 8 := by
  unfold nbk wr
  rw [if_pos rfl]
  split <;> split <;> omega
theorem dsR_7 {w : WT} {K : Nat} (hK : K < 8) (hw : WOK w) : dsR w 7 K = chgN w 3 (nbk (wn w) 3 K) := by
  unfold dsR
  rw [if_pos rfl, if_pos rfl]
  exact chg_yes (by omega) (by rw [if_pos rfl]; exact nbk_lt hw.1.1 hw.1.2 hK) hw
theorem isA_n {n S K : Nat} (hn : n ≤ 8) (hS : S < 2 ^ 31) (hK : K < 2 ^ 31) (h : isA n (nI S) (nI K)) : S ≤ 5 ∧ K < (if S = 3 then 8 else n) := by
  obtain ⟨S1, K1, h1, h2, e1, e2⟩ := isA_nat hn h
  have hk1 : K1 < 2 ^ 31 := by split at h2 <;> omega
  have e3 := (nI_eq hS (by omega)).mp e1
  have e4 := (nI_eq hK hk1).mp e2
  subst e3 e4
  exact ⟨h1, h2⟩
theorem dsR_no {w : WT} {S K : Nat} (h7 : S ≠ 7) (h : ¬ isA (wn w) (nI S) (nI K)) : dsR w S K = (-1, w) := by
  rw [dsR_c h7]; exact chg_no h
theorem swp_c {n a b : Nat} {P Q : Nat → Nat} (h : ∀ i, i < n → P i = Q i) (ha : a < n) (hb : b < n) : ∀ i, i < n → swp P a b i = swp Q a b i := fun i hi => by
  unfold swp va_up
  rw [h a ha, h b hb, h i hi]
theorem chgP {w : WT} {P : Nat → Nat} {K S : Nat} (hS : S < 2) (hw : WOK w) (hK : K < wn w) (h : ∀ i, i < wn w → P i = wp w i) : ∀ i, i < wn w → (if 0 = 0 ∧ (wPass w K S).isSome = true then swp P (wd w K) (wd w (nx (wn w) K)) else P) i = wp (chgN w S K).2 i := fun i hi => by
  have e : wp (chgN w S K).2 = (if (wPass w K S).isSome = true then swp (wp w) (wd w K) (wd w (nx (wn w) K)) else wp w) := by
    unfold chgN; rw [if_pos hS]
  rw [e]
  by_cases q : (wPass w K S).isSome = true
  · rw [if_pos ⟨rfl, q⟩, if_pos q]
    exact swp_c h (hw.2.1.1 K hK) (hw.2.1.1 _ (nx_lt hw.1.1 hK)) i hi
  · rw [if_neg (fun z => q z.2), if_neg q]
    exact h i hi
theorem wr_mod {n K : Nat} (h4 : 4 ≤ n) (hK : K < 8) : wr n K % n = K % n := by
  unfold wr
  split
  · rfl
  · rw [Nat.mod_eq_sub_mod (a := K) (by omega)]
theorem chgR {w : WT} {P : Nat → Nat} {K : Nat} (hK : K < 8) (hw : WOK w) (h : ∀ i, i < wn w → P i = wp w i) : ∀ i, i < wn w → gor K (wn w) (wn w) P i = wp (chgN w 3 K).2 i := fun i hi => by
  have e : wp (chgN w 3 K).2 i = (wp w i + wr (wn w) K % wn w) % wn w := rfl
  rw [e, wr_mod hw.1.1 hK]
  unfold gor
  rw [if_pos hi, h i hi, Nat.add_mod_mod]
theorem nb7_ : ∀ n, n < 9 → 4 ≤ n → ∀ K, K < 8 → (n - K % n) % n = nbk n 3 K % n := by decide
theorem chgR7 {w : WT} {P : Nat → Nat} {K : Nat} (hK : K < 8) (hw : WOK w) (h : ∀ i, i < wn w → P i = wp w i) : ∀ i, i < wn w → gor ((wn w - K % wn w) % wn w) (wn w) (wn w) P i = wp (chgN w 3 (nbk (wn w) 3 K)).2 i := fun i hi => by
  have e : wp (chgN w 3 (nbk (wn w) 3 K)).2 i = (wp w i + wr (wn w) (nbk (wn w) 3 K) % wn w) % wn w := rfl
  have h8 := hw.1.2
  rw [e, wr_mod hw.1.1 (nbk_lt hw.1.1 hw.1.2 hK), ← nb7_ (wn w) (by omega) hw.1.1 K hK]
  unfold gor
  rw [if_pos hi, h i hi, Nat.add_mod_mod]
/-- what lies with a blade goes, one by one -/
def drp (o K : Nat) : Nat → Nat
  | 0 => o
  | j + 1 => an (an (drp o K j) (2 ^ (8 * K + j))) (2 ^ (8 * j + K))
theorem drp_lt {o K : Nat} (h : o < 2 ^ 64) : ∀ j, drp o K j < 2 ^ 64
  | 0 => h
  | j + 1 => an_le _ _ (an_le _ _ (drp_lt h j))
theorem drp_tb {o K : Nat} (hK : K < 8) : ∀ j, j ≤ 8 → ∀ k, (drp o K j).testBit k = (o.testBit k && !((decide (k / 8 = K) && decide (k % 8 < j)) || (decide (k % 8 = K) && decide (k / 8 < j))))
  | 0, _, k => by simp [drp]
  | j + 1, hj, k => by
    rw [drp, an_tb, an_tb, drp_tb hK j (by omega) k, Nat.testBit_two_pow, Nat.testBit_two_pow]
    cases o.testBit k with
    | false => simp
    | true =>
      simp only [Bool.true_and]
      rw [Bool.eq_iff_iff]
      simp
      omega
theorem drp_e {n o K : Nat} (hn : n ≤ 8) (hK : K < n) (ho : OB n o) : drp o K n = an o (rc K) := by
  apply Nat.eq_of_testBit_eq
  intro k
  rw [drp_tb (by omega) n hn k, an_tb]
  cases q : o.testBit k with
  | false => simp
  | true =>
    have h := ho.2 k q
    have hk : k < 64 := by omega
    rw [rc_tb K (by omega) k hk]
    simp [h.1, h.2]
theorem bsd_P {n K : Nat} {P Q : Nat → Nat} (h4 : 4 ≤ n) (hK : K < n) (h : ∀ i, i < n → P i = Q i) : bsd n P K = bsd n Q K := by
  unfold bsd; rw [h K hK, h _ (nx_lt h4 hK)]
theorem chgN_5n {w : WT} {K : Nat} (h : ¬ ((wh w).testBit K = false ∧ bsd (wn w) (wp w) K = true)) : chgN w 5 K = (-2, w) := by
  unfold chgN
  rw [if_neg (by omega), if_neg (by omega), if_neg (by omega), if_neg (by omega), if_neg h]
theorem chgN_5y {w : WT} {K : Nat} (h : (wh w).testBit K = false ∧ bsd (wn w) (wp w) K = true) : chgN w 5 K = (1, (wn w, wd w, wp w, wf w, wh w ||| 2 ^ K, wo w)) := by
  unfold chgN
  rw [if_neg (by omega), if_neg (by omega), if_neg (by omega), if_neg (by omega), if_pos h]
theorem dsR_wn {w : WT} {S K : Nat} (hw : WOK w) : WOK (dsR w S K).2 ∧ wn (dsR w S K).2 = wn w := chg_ok hw
theorem chgN_v {w : WT} {S K : Nat} : (chgN w S K).1 = 1 ∨ (chgN w S K).1 = -2 ∨ (chgN w S K).1 = -5 := by
  unfold chgN
  split
  · show pR _ = _ ∨ pR _ = _ ∨ pR _ = _
    cases wPass w K S with
    | none => exact Or.inr (Or.inr rfl)
    | some o => exact Or.inl rfl
  · split
    · exact Or.inl rfl
    · split
      · exact Or.inl rfl
      · split
        · split
          · exact Or.inl rfl
          · exact Or.inr (Or.inl rfl)
        · split
          · exact Or.inl rfl
          · exact Or.inr (Or.inl rfl)
theorem chg_v {w : WT} {s k : Int32} (hw : WOK w) : (chg w s k).1 = 1 ∨ (chg w s k).1 = -1 ∨ (chg w s k).1 = -2 ∨ (chg w s k).1 = -5 := by
  by_cases h : isA (wn w) s k
  · obtain ⟨S, K, hS, hK, rfl, rfl⟩ := isA_nat hw.1.2 h
    rw [chg_yes hS hK hw]
    rcases chgN_v (w := w) (S := S) (K := K) with e | e | e
    · exact Or.inl e
    · exact Or.inr (Or.inr (Or.inl e))
    · exact Or.inr (Or.inr (Or.inr e))
  · rw [chg_no h]; exact Or.inr (Or.inl rfl)
theorem sg1 {x : Int32} (h : x = 1 ∨ x = -1 ∨ x = -2 ∨ x = -5) : (x ≤ 0 ↔ ¬ x = 1) ∧ (x < 0 ↔ ¬ x = 1) := by
  rcases h with rfl | rfl | rfl | rfl <;> decide
/-- what can be undone, as the reference has it -/
def paF (F : FS) (j : Nat) : WT := F.2.1 ((F.2.2.1 + 13 - F.2.2.2 + j) % 13)
def UR (F : FS) (OP OF OH : Nat → Nat) (OO : Nat → Int64) : Prop := ∀ j, j < F.2.2.2 → wn (paF F j) = wn F.1 ∧ OP j = pk (wp (paF F j)) (wn F.1) ∧ OF j = wf (paF F j) ∧ OH j = wh (paF F j) ∧ OO j = lN (wo (paF F j))
def shf {α : Type} (k : Nat) (f : Nat → α) : Nat → α := fun j => if j < k then f (j + 1) else f j
theorem shf_0 {α : Type} (f : Nat → α) : shf 0 f = f := funext fun j => if_neg (Nat.not_lt_zero j)
theorem shf_at {α : Type} (k : Nat) (f : Nat → α) : shf k f (k + 1) = f (k + 1) := if_neg (by omega)
theorem shf_s {α : Type} (k : Nat) (f : Nat → α) : va_up (shf k f) k (shf k f (k + 1)) = shf (k + 1) f := by
  rw [shf_at]
  funext j
  unfold va_up shf
  by_cases e : j = k
  · subst e; rw [if_pos rfl, if_pos (by omega)]
  · rw [if_neg e]
    by_cases h : j < k
    · rw [if_pos h, if_pos (by omega)]
    · rw [if_neg h, if_neg (by omega)]
theorem updL_va (f : Nat → Int64) (k : Nat) (x : Int64) : vp_updL f k x = va_up f k x := by
  funext j; unfold vp_updL va_up; first | rfl | (split <;> rfl)
def psh {α : Type} (un : Nat) (f : Nat → α) (x : α) : Nat → α := va_up (if un = 12 then shf 11 f else f) (if un = 12 then 11 else un) x
theorem psh_at {α : Type} {un j : Nat} {f : Nat → α} {x : α} (hun : un ≤ 12) (hj : j < (if un + 1 < 12 then un + 1 else 12)) : psh un f x j = if j = (if un = 12 then 11 else un) then x else if un = 12 then f (j + 1) else f j := by
  unfold psh va_up
  by_cases e : j = (if un = 12 then 11 else un)
  · rw [if_pos e, if_pos e]
  · rw [if_neg e, if_neg e]
    by_cases h : un = 12
    · rw [if_pos h, if_pos h]
      unfold shf
      rw [if_pos]
      rw [if_pos h] at e
      split at hj <;> omega
    · rw [if_neg h, if_neg h]
theorem ring_a {x u j : Nat} (hx : x < 13) (hu : u < 12) (hj : j < u + 1) : ((if x + 1 < 13 then x + 1 else 0) + 13 - (u + 1) + j) % 13 = (x + 13 - u + j) % 13 := by split <;> omega
theorem ring_b {x j : Nat} (hx : x < 13) (hj : j < 12) : ((if x + 1 < 13 then x + 1 else 0) + 13 - 12 + j) % 13 = (x + 13 - 12 + (j + 1)) % 13 := by split <;> omega
theorem ring_e {x u : Nat} (hx : x < 13) (hu : u ≤ 12) : (x + 13 - u + u) % 13 = x := by omega
theorem ring_ne {x u j : Nat} (hx : x < 13) (hu : u ≤ 12) (hj : j < u) : (x + 13 - u + j) % 13 ≠ x := by omega
theorem UR_1 {F : FS} {OP OF OH : Nat → Nat} {OO : Nat → Int64} {s k : Int32} (hF : FOK F) (h : UR F OP OF OH OO) (h1 : (attF s k F).1 = 1) : UR (attF s k F).2 (psh F.2.2.2 OP (pk (wp F.1) (wn F.1))) (psh F.2.2.2 OF (wf F.1)) (psh F.2.2.2 OH (wh F.1)) (psh F.2.2.2 OO (lN (wo F.1))) := by
  have hn := (attF_ok (s := s) (k := k) hF).2
  obtain ⟨hw, hP, hnx, hun⟩ := hF
  have h1' : (chg F.1 s k).1 = 1 := h1
  have e3 : (attF s k F).2.2.2.1 = if F.2.2.1 + 1 < 13 then F.2.2.1 + 1 else 0 := if_pos h1'
  have e4 : (attF s k F).2.2.2.2 = if F.2.2.2 + 1 < 12 then F.2.2.2 + 1 else 12 := if_pos h1'
  have e2 : (attF s k F).2.2.1 = va_up F.2.1 F.2.2.1 F.1 := rfl
  intro j hj
  rw [e4] at hj
  have hpa : (j = (if F.2.2.2 = 12 then 11 else F.2.2.2) ∧ paF (attF s k F).2 j = F.1) ∨ (j ≠ (if F.2.2.2 = 12 then 11 else F.2.2.2) ∧ F.2.2.2 = 12 ∧ j + 1 < F.2.2.2 ∧ paF (attF s k F).2 j = paF F (j + 1)) ∨ (j ≠ (if F.2.2.2 = 12 then 11 else F.2.2.2) ∧ ¬ F.2.2.2 = 12 ∧ j < F.2.2.2 ∧ paF (attF s k F).2 j = paF F j) := by
    unfold paF
    rw [e2, e3, e4]
    by_cases q : F.2.2.2 = 12
    · rw [if_pos q]
      rw [if_neg (by omega)] at hj
      rw [if_neg (show ¬ F.2.2.2 + 1 < 12 by omega), ring_b hnx hj]
      by_cases qj : j = 11
      · refine Or.inl ⟨qj, ?_⟩
        have : (F.2.2.1 + 13 - 12 + (j + 1)) % 13 = F.2.2.1 := by omega
        rw [this, va_up_self]
      · refine Or.inr (Or.inl ⟨qj, q, by omega, ?_⟩)
        rw [va_up_ne _ _ (by omega), q]
    · rw [if_neg q]
      have hu : F.2.2.2 < 12 := by omega
      have hj2 : j < F.2.2.2 + 1 := by split at hj <;> omega
      have e : (if F.2.2.2 + 1 < 12 then F.2.2.2 + 1 else 12) = F.2.2.2 + 1 := by split <;> omega
      rw [e, ring_a hnx hu hj2]
      by_cases qj : j = F.2.2.2
      · refine Or.inl ⟨qj, ?_⟩
        rw [qj, ring_e hnx hun, va_up_self]
      · refine Or.inr (Or.inr ⟨qj, q, by omega, ?_⟩)
        rw [va_up_ne _ _ (ring_ne hnx hun (by omega))]
  rw [hn, psh_at hun hj, psh_at hun hj, psh_at hun hj, psh_at hun hj]
  rcases hpa with ⟨q1, q2⟩ | ⟨q1, q2, q3, q4⟩ | ⟨q1, q2, q3, q4⟩
  · rw [q2, if_pos q1, if_pos q1, if_pos q1, if_pos q1]
    exact ⟨rfl, rfl, rfl, rfl, rfl⟩
  · rw [q4, if_neg q1, if_neg q1, if_neg q1, if_neg q1, if_pos q2, if_pos q2, if_pos q2, if_pos q2]
    exact h (j + 1) q3
  · rw [q4, if_neg q1, if_neg q1, if_neg q1, if_neg q1, if_neg q2, if_neg q2, if_neg q2, if_neg q2]
    exact h j q3
theorem UR_n {F : FS} {OP OF OH : Nat → Nat} {OO : Nat → Int64} {s k : Int32} (hF : FOK F) (h : UR F OP OF OH OO) (h1 : ¬ (attF s k F).1 = 1) : UR (attF s k F).2 OP OF OH OO := by
  have hn := (attF_ok (s := s) (k := k) hF).2
  obtain ⟨hw, hP, hnx, hun⟩ := hF
  have h1' : ¬ (chg F.1 s k).1 = 1 := h1
  have e3 : (attF s k F).2.2.2.1 = F.2.2.1 := if_neg h1'
  have e4 : (attF s k F).2.2.2.2 = F.2.2.2 := if_neg h1'
  have e2 : (attF s k F).2.2.1 = va_up F.2.1 F.2.2.1 F.1 := rfl
  intro j hj
  rw [e4] at hj
  have hpa : paF (attF s k F).2 j = paF F j := by
    unfold paF
    rw [e2, e3, e4, va_up_ne _ _ (ring_ne hnx hun hj)]
  rw [hn, hpa]
  exact h j hj


theorem bd_nat {n K S bd : Nat} (hbd : bd = if (nI S = 3) then 8 else n) : True := trivial
theorem wr_le {n K : Nat} (h4 : 4 ≤ n) (hK : K < 8) : wr n K ≤ n := by unfold wr; split <;> omega
theorem chgN_4t {w : WT} {K : Nat} (h : (wh w).testBit K = true) : chgN w 4 K = (1, (wn w, wd w, wp w, wf w, an (wh w) (2 ^ K), an (wo w) (rc K))) := by
  unfold chgN; rw [if_neg (by decide), if_neg (by decide), if_neg (by decide), if_pos rfl, if_pos h]
theorem chgN_4f {w : WT} {K : Nat} (h : (wh w).testBit K = false) : chgN w 4 K = (-2, w) := by
  unfold chgN; rw [if_neg (by decide), if_neg (by decide), if_neg (by decide), if_pos rfl, if_neg (by rw [h]; decide)]
theorem chgN_5t {w : WT} {K : Nat} (h : (wh w).testBit K = false) (h2 : su (wn w) (wp w K) (wp w (nx (wn w) K)) = 1 ∨ su (wn w) (wp w K) (wp w (nx (wn w) K)) = wn w - 1) : chgN w 5 K = (1, (wn w, wd w, wp w, wf w, wh w ||| 2 ^ K, wo w)) := by
  unfold chgN; rw [if_neg (by decide), if_neg (by decide), if_neg (by decide), if_neg (by decide), if_pos ⟨h, by unfold bsd; simpa using h2⟩]
theorem chgN_5f {w : WT} {K : Nat} (h : (wh w).testBit K = true ∨ (¬ su (wn w) (wp w K) (wp w (nx (wn w) K)) = 1 ∧ ¬ su (wn w) (wp w K) (wp w (nx (wn w) K)) = wn w - 1)) : chgN w 5 K = (-2, w) := by
  unfold chgN; rw [if_neg (by decide), if_neg (by decide), if_neg (by decide), if_neg (by decide), if_neg]
  rintro ⟨q1, q2⟩
  rcases h with h | h
  · rw [q1] at h; cases h
  · unfold bsd at q2; simp [h.1, h.2] at q2
theorem b1_0 {a k : Nat} (h : a / 2 ^ k &&& 1 = 0) : a.testBit k = false := by rw [an1] at h; exact (tb_div0 a k).mp h
theorem b1_1 {a k : Nat} (h : ¬ a / 2 ^ k &&& 1 = 0) : a.testBit k = true := by
  rw [an1] at h
  cases q : a.testBit k
  · exact absurd ((tb_div0 a k).mpr q) h
  · rfl
theorem mk_t {P : Nat → Bool} {j : Nat} (h : P j = true) : mk P (j + 1) = mk P j ||| 2 ^ j := by rw [mk, if_pos h]
theorem mk_f {P : Nat → Bool} {j : Nat} (h : P j = false) : mk P (j + 1) = mk P j := by rw [mk, if_neg (by rw [h]; decide), Nat.or_zero]
theorem mk_congr {P Q : Nat → Bool} : ∀ {m : Nat}, (∀ k, k < m → P k = Q k) → mk P m = mk Q m
  | 0, _ => rfl
  | m + 1, h => by rw [mk, mk, mk_congr (fun k hk => h k (by omega)), h m (by omega)]
/-- the blades over one; those that come off; what is left behind so many layers -/
def frb (n o lf i : Nat) : Bool := lf.testBit i && decide (tab n o i &&& lf = 0)
def fre (n o lf : Nat) : Nat := mk (frb n o lf) n
def lef (n o h : Nat) : Nat → Nat
  | 0 => h
  | L + 1 => an (lef n o h L) (fre n o (lef n o h L))
theorem frb_t {n o lf i : Nat} (h1 : ¬ lf / 2 ^ i &&& 1 = 0) (h2 : tab n o i &&& lf = 0) : frb n o lf i = true := by unfold frb; rw [b1_1 h1, decide_eq_true h2]; rfl
theorem frb_f1 {n o lf i : Nat} (h1 : lf / 2 ^ i &&& 1 = 0) : frb n o lf i = false := by unfold frb; rw [b1_0 h1]; rfl
theorem frb_f2 {n o lf i : Nat} (h2 : ¬ tab n o i &&& lf = 0) : frb n o lf i = false := by unfold frb; rw [decide_eq_false h2, Bool.and_false]
theorem lef_lt {n o h : Nat} {k : Nat} (hh : h < 2 ^ k) : ∀ L, lef n o h L < 2 ^ k
  | 0 => hh
  | L + 1 => an_le _ _ (lef_lt hh L)
theorem fre_lt {n o lf : Nat} (hn : n ≤ 8) : fre n o lf < 256 := mk_lt8 hn
/-- the first below m with P; m: none -/
def fs (P : Nat → Bool) : Nat → Nat
  | 0 => 0
  | m + 1 => if fs P m < m then fs P m else if P m then m else m + 1
theorem fs_no {P : Nat → Bool} : ∀ {m : Nat}, (∀ j, j < m → P j = false) → fs P m = m
  | 0, _ => rfl
  | m + 1, h => by rw [fs, fs_no (fun j hj => h j (by omega)), if_neg (by omega), if_neg (by rw [h m (by omega)]; decide)]
theorem fs_yes {P : Nat → Bool} {k : Nat} (h1 : ∀ j, j < k → P j = false) (h2 : P k = true) : ∀ {m : Nat}, k < m → fs P m = k
  | m + 1, h => by
    by_cases e : k = m
    · subst e
      rw [fs, fs_no h1, if_neg (by omega), if_pos h2]
    · rw [fs, fs_yes h1 h2 (m := m) (by omega), if_pos (by omega)]
theorem fs_le (P : Nat → Bool) : ∀ m, fs P m ≤ m
  | 0 => Nat.le_refl _
  | m + 1 => by
    have := fs_le P m
    rw [fs]; split
    · omega
    · split <;> omega
theorem lt_sn {P : Nat → Prop} {k : Nat} (h : ∀ j, j < k → P j) (hk : P k) : ∀ j, j < k + 1 → P j := fun j hj => by
  by_cases e : j = k
  · rw [e]; exact hk
  · exact h j (by omega)
/-- the turns -/
def tS (n : Nat) (pl : Nat → Nat) (u v : Nat) : Bool := decide (su n (pl (nx n u)) (pl (nx n v)) < su n (pl (nx n u)) (pl u))
def tIn (n : Nat) (pl : Nat → Nat) (o u : Nat) : Nat → Int32 → Int32
  | 0, s => s
  | v + 1, s => if o.testBit (8 * u + v) = true then (if tS n pl u v = true then tIn n pl o u v s + 1 else tIn n pl o u v s + (-1)) else tIn n pl o u v s
def tOut (n : Nat) (pl : Nat → Nat) (o : Nat) : Nat → Int32
  | 0 => 0
  | u + 1 => tIn n pl o u n (tOut n pl o u)
theorem sw_out5 {x : Int32} (h0 : ¬ x = nI 0) (h1 : ¬ x = nI 1) (h2 : ¬ x = nI 2) (h3 : ¬ x = nI 3) (h4 : ¬ x = nI 4) : x.toInt < 0 ∨ 4 < x.toInt := by
  by_cases a : x.toInt < 0
  · exact Or.inl a
  · refine Or.inr ?_
    have t : ∀ k : Nat, k < 2 ^ 31 → ¬ x = nI k → ¬ x.toInt = k := fun k hk h e => h (Int32.toInt_inj.mp (by rw [nI_toInt hk]; exact e))
    have := t 0 (by decide) h0
    have := t 1 (by decide) h1
    have := t 2 (by decide) h2
    have := t 3 (by decide) h3
    have := t 4 (by decide) h4
    omega
theorem sw_out3 {x : Int32} (h0 : ¬ x = nI 0) (h1 : ¬ x = nI 1) (h2 : ¬ x = nI 2) : x.toInt < 0 ∨ 2 < x.toInt := by
  by_cases a : x.toInt < 0
  · exact Or.inl a
  · refine Or.inr ?_
    have t : ∀ k : Nat, k < 2 ^ 31 → ¬ x = nI k → ¬ x.toInt = k := fun k hk h e => h (Int32.toInt_inj.mp (by rw [nI_toInt hk]; exact e))
    have := t 0 (by decide) h0
    have := t 1 (by decide) h1
    have := t 2 (by decide) h2
    omega
theorem sw_out9 {x : Int32} (h0 : ¬ x = nI 0) (h1 : ¬ x = nI 1) (h2 : ¬ x = nI 2) (h3 : ¬ x = nI 3) (h4 : ¬ x = nI 4) (h5 : ¬ x = nI 5) (h6 : ¬ x = nI 6) (h7 : ¬ x = nI 7) (h8 : ¬ x = nI 8) : x.toInt < 0 ∨ 8 < x.toInt := by
  by_cases a : x.toInt < 0
  · exact Or.inl a
  · refine Or.inr ?_
    have t : ∀ k : Nat, k < 2 ^ 31 → ¬ x = nI k → ¬ x.toInt = k := fun k hk h e => h (Int32.toInt_inj.mp (by rw [nI_toInt hk]; exact e))
    have := t 0 (by decide) h0
    have := t 1 (by decide) h1
    have := t 2 (by decide) h2
    have := t 3 (by decide) h3
    have := t 4 (by decide) h4
    have := t 5 (by decide) h5
    have := t 6 (by decide) h6
    have := t 7 (by decide) h7
    have := t 8 (by decide) h8
    omega
theorem sw_out10 {x : Int32} (h0 : ¬ x = nI 0) (h1 : ¬ x = nI 1) (h2 : ¬ x = nI 2) (h3 : ¬ x = nI 3) (h4 : ¬ x = nI 4) (h5 : ¬ x = nI 5) (h6 : ¬ x = nI 6) (h7 : ¬ x = nI 7) (h8 : ¬ x = nI 8) (h9 : ¬ x = nI 9) : x.toInt < 0 ∨ 9 < x.toInt := by
  rcases sw_out9 h0 h1 h2 h3 h4 h5 h6 h7 h8 with a | a
  · exact Or.inl a
  · refine Or.inr ?_
    have t : ¬ x.toInt = 9 := fun e => h9 (Int32.toInt_inj.mp (by rw [nI_toInt (by decide)]; exact e))
    omega
theorem tIn_f {n : Nat} {pl : Nat → Nat} {o u v : Nat} {s s2 : Int32} (hc : ¬ o.testBit (8 * u + v) = true) (h : s2 = tIn n pl o u v s) : s2 = tIn n pl o u (v + 1) s := by
  rw [tIn, if_neg hc]; exact h
theorem tIn_a {n : Nat} {pl : Nat → Nat} {o u v : Nat} {s s2 : Int32} (hc : o.testBit (8 * u + v) = true) (h : s2 = tIn n pl o u v s) (h2 : ¬ su n (pl (nx n u)) (pl u) ≤ su n (pl (nx n u)) (pl (nx n v))) : s2 + nI 1 = tIn n pl o u (v + 1) s := by
  rw [tIn, if_pos hc, if_pos (show tS n pl u v = true from decide_eq_true (by omega)), h]; rfl
theorem tIn_b {n : Nat} {pl : Nat → Nat} {o u v : Nat} {s s2 : Int32} (hc : o.testBit (8 * u + v) = true) (h : s2 = tIn n pl o u v s) (h2 : su n (pl (nx n u)) (pl u) ≤ su n (pl (nx n u)) (pl (nx n v))) : s2 + (-1) = tIn n pl o u (v + 1) s := by
  rw [tIn, if_pos hc, if_neg (show ¬ tS n pl u v = true by unfold tS; rw [decide_eq_false (by omega)]; decide), h]


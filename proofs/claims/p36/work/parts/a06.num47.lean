-- what two dances share, as the reference searches it
theorem lc_16 {V1 V2 : Nat → Nat} {n1 n2 i j : Nat} (h : n1 ≤ 16) : lc V1 V2 n1 n2 i j ≤ 16 := Nat.le_trans lc_le' (by omega)
/-- rows c.. are laid -/
def LGo (V1 V2 : Nat → Nat) (n1 n2 : Nat) (LG : Nat → Nat) (c : Nat) : Prop := ∀ i j, i < 17 → j < 17 → (c ≤ i ∨ n2 ≤ j) → LG (17 * i + j) = lc V1 V2 n1 n2 i j
def LGi (V1 V2 : Nat → Nat) (n1 n2 : Nat) (LG : Nat → Nat) (a d : Nat) : Prop := ∀ i j, i < 17 → j < 17 → (a < i ∨ n2 ≤ j ∨ (i = a ∧ d ≤ j)) → LG (17 * i + j) = lc V1 V2 n1 n2 i j
theorem LGo_0 {V1 V2 : Nat → Nat} {n1 n2 : Nat} {LG : Nat → Nat} (h : ∀ k, k < 289 → LG k = 0) : LGo V1 V2 n1 n2 LG n1 := fun i j hi hj hc => by
  rw [lc_out hc]; exact h _ (by omega)
theorem LGi_in {V1 V2 : Nat → Nat} {n1 n2 : Nat} {LG : Nat → Nat} {a : Nat} (h : LGo V1 V2 n1 n2 LG (a + 1)) : LGi V1 V2 n1 n2 LG a n2 := fun i j hi hj hc => h i j hi hj (by omega)
theorem LGi_out {V1 V2 : Nat → Nat} {n1 n2 : Nat} {LG : Nat → Nat} {a : Nat} (h : LGi V1 V2 n1 n2 LG a 0) : LGo V1 V2 n1 n2 LG a := fun i j hi hj hc => h i j hi hj (by omega)
theorem LGi_s {V1 V2 : Nat → Nat} {n1 n2 : Nat} {LG : Nat → Nat} {a b x : Nat} (h : LGi V1 V2 n1 n2 LG a (b + 1)) (ha : a < 17) (hb : b < 17) (hx : x = lc V1 V2 n1 n2 a b) : LGi V1 V2 n1 n2 (va_up LG (17 * a + b) x) a b := fun i j hi hj hc => by
  by_cases e : i = a ∧ j = b
  · obtain ⟨rfl, rfl⟩ := e
    rw [va_up_self]; exact hx
  · rw [va_up_ne _ _ (by omega)]
    exact h i j hi hj (by omega)
/-- the greatest of three, as the reference takes it -/
theorem lg3 {V1 V2 : Nat → Nat} {n1 n2 a b bo on tw : Nat} (ha : a < n1) (hb : b < n2) (h1 : on = lc V1 V2 n1 n2 (a + 1) b) (h2 : tw = lc V1 V2 n1 n2 a (b + 1)) (h3 : bo = if V1 a = V2 b then 1 + lc V1 V2 n1 n2 (a + 1) (b + 1) else 0) : ((¬ bo ≤ on ∧ ¬ bo ≤ tw) → bo = lc V1 V2 n1 n2 a b) ∧ (¬ (¬ bo ≤ on ∧ ¬ bo ≤ tw) → ((¬ on ≤ tw → on = lc V1 V2 n1 n2 a b) ∧ (on ≤ tw → tw = lc V1 V2 n1 n2 a b))) := by
  have q1 := (lc_st (V1 := V1) (V2 := V2) (n1 := n1) (n2 := n2) (i := a + 1) (j := b)).2
  have q2 := (lc_st (V1 := V1) (V2 := V2) (n1 := n1) (n2 := n2) (i := a) (j := b + 1)).1
  by_cases e : V1 a = V2 b
  · rw [if_pos e] at h3
    have := lc_eq ha hb e
    refine ⟨fun _ => by omega, fun _ => ⟨fun _ => by omega, fun _ => by omega⟩⟩
  · rw [if_neg e] at h3
    have := lc_ne ha hb e
    refine ⟨fun _ => by omega, fun _ => ⟨fun _ => by omega, fun _ => by omega⟩⟩
theorem pfr_le {V : Nat → Nat} {n f i : Nat} (h : i ≤ n) : i ≤ pfr V n f i ∧ pfr V n f i ≤ n := fsr_bd _ h
theorem pfr_v {V : Nat → Nat} {n f i : Nat} (h : i ≤ n) (hl : pfr V n f i < n) : V (pfr V n f i) = f := of_decide_eq_true (fsr_yes h hl)
theorem sst_s {V1 V2 : Nat → Nat} {n1 n2 c f : Nat} (h : f = sfg V1 V2 n1 n2 c) : sst V1 V2 n1 n2 (c + 1) = (pfr V1 n1 f (sst V1 V2 n1 n2 c).1 + 1, pfr V2 n2 f (sst V1 V2 n1 n2 c).2 + 1) := by subst h; rfl
theorem sfg_at {V1 V2 : Nat → Nat} {n1 n2 c f : Nat} (h1 : ∀ j, j < f → lnP V1 V2 n1 n2 (sst V1 V2 n1 n2 c).1 (sst V1 V2 n1 n2 c).2 (lc V1 V2 n1 n2 0 0 - c) j = false) (h2 : lnP V1 V2 n1 n2 (sst V1 V2 n1 n2 c).1 (sst V1 V2 n1 n2 c).2 (lc V1 V2 n1 n2 0 0 - c) f = true) (hf : f < 8) : f = sfg V1 V2 n1 n2 c := (fs_yes h1 h2 hf).symm
/-- while one is sought -/
def shS (V1 V2 : Nat → Nat) (n1 n2 c f a b : Nat) (fo : Int32) : Prop := (fo = -4 ∧ (a, b) = sst V1 V2 n1 n2 c ∧ ∀ j, j < f → lnP V1 V2 n1 n2 (sst V1 V2 n1 n2 c).1 (sst V1 V2 n1 n2 c).2 (lc V1 V2 n1 n2 0 0 - c) j = false) ∨ (fo = nI (sfg V1 V2 n1 n2 c) ∧ (a, b) = sst V1 V2 n1 n2 (c + 1))
theorem shS_0 {V1 V2 : Nat → Nat} {n1 n2 c a b : Nat} (h : (a, b) = sst V1 V2 n1 n2 c) : shS V1 V2 n1 n2 c 0 a b (-4) := Or.inl ⟨rfl, h, fun j hj => absurd hj (Nat.not_lt_zero _)⟩
theorem shS_n {V1 V2 : Nat → Nat} {n1 n2 c f a b : Nat} {fo : Int32} (h : shS V1 V2 n1 n2 c f a b fo) (hfo : fo = -4) (hf8 : ∀ k, V1 k < 8) (hc : c < lc V1 V2 n1 n2 0 0) (hp : lnP V1 V2 n1 n2 a b (lc V1 V2 n1 n2 0 0 - c) f = false) : shS V1 V2 n1 n2 c (f + 1) a b fo := by
  rcases h with ⟨q1, q2, q3⟩ | ⟨q1, q2⟩
  · refine Or.inl ⟨q1, q2, lt_sn q3 ?_⟩
    rw [← q2]; exact hp
  · have := (sfg_ok hf8 hc).1
    rw [q1] at hfo
    exact absurd hfo (nI_m4 (by omega))
theorem shS_y {V1 V2 : Nat → Nat} {n1 n2 c f a b : Nat} {fo : Int32} (h : shS V1 V2 n1 n2 c f a b fo) (hfo : fo = -4) (hf8 : ∀ k, V1 k < 8) (hc : c < lc V1 V2 n1 n2 0 0) (hf : f < 8) (hp : lnP V1 V2 n1 n2 a b (lc V1 V2 n1 n2 0 0 - c) f = true) : shS V1 V2 n1 n2 c (f + 1) (pfr V1 n1 f a + 1) (pfr V2 n2 f b + 1) (nI f) := by
  rcases h with ⟨q1, q2, q3⟩ | ⟨q1, q2⟩
  · have e : f = sfg V1 V2 n1 n2 c := sfg_at q3 (by rw [← q2]; exact hp) hf
    refine Or.inr ⟨by rw [← e], ?_⟩
    rw [sst_s e, ← q2]
  · have := (sfg_ok hf8 hc).1
    rw [q1] at hfo
    exact absurd hfo (nI_m4 (by omega))
theorem shS_e {V1 V2 : Nat → Nat} {n1 n2 c f a b fi : Nat} {fo : Int32} (h : shS V1 V2 n1 n2 c f a b fo) (hf8 : ∀ k, V1 k < 8) (hfi : ∀ k, k < n1 → V1 k < fi) (hc : c < lc V1 V2 n1 n2 0 0) (hx : fi ≤ f ∨ ¬ fo = -4) : fo = nI (sfg V1 V2 n1 n2 c) ∧ (a, b) = sst V1 V2 n1 n2 (c + 1) := by
  rcases h with ⟨q1, q2, q3⟩ | q
  · exfalso
    obtain ⟨h8, hp⟩ := sfg_ok hf8 hc
    rcases hx with hx | hx
    · have hpl := (sfg_pl hf8 hc).1
      have hle := (sst_ok hf8 c (Nat.le_of_lt hc)).1.1
      have hv := pfr_v hle hpl
      have := hfi _ hpl
      rw [hv] at this
      have := q3 _ (show sfg V1 V2 n1 n2 c < f by omega)
      rw [hp] at this
      cases this
    · exact hx q1
  · exact q
theorem shS_b {V1 V2 : Nat → Nat} {n1 n2 c f a b : Nat} {fo : Int32} (h : shS V1 V2 n1 n2 c f a b fo) (hf8 : ∀ k, V1 k < 8) (hc : c < lc V1 V2 n1 n2 0 0) : a ≤ n1 ∧ b ≤ n2 := by
  rcases h with ⟨_, q2, _⟩ | ⟨_, q2⟩
  · have := (sst_ok hf8 c (Nat.le_of_lt hc)).1
    rw [← q2] at this; exact this
  · have := (sst_ok hf8 (c + 1) hc).1
    rw [← q2] at this; exact this
theorem dI_of (c : Nat) : nI c - nI 1 = dI c := by unfold dI; rw [Int32.sub_eq_add_neg]; rfl


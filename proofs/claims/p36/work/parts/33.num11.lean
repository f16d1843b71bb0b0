-- the search: its seats by hash
theorem php : ∀ (n m : Nat) (f : Nat → Nat), (∀ i, i < n → f i < m) → (∀ i j, i < n → j < n → f i = f j → i = j) → n ≤ m
  | 0, _, _, _, _ => Nat.zero_le _
  | n + 1, m, f, h1, h2 => by
    have h0 := h1 n (by omega)
    have ih := php n (m - 1) (fun i => if f i = m - 1 then f n else f i) (fun i hi => by
      have a1 := h1 i (by omega)
      have a2 : f i ≠ f n := fun e => by have := h2 i n (by omega) (by omega) e; omega
      show (if f i = m - 1 then f n else f i) < m - 1
      split <;> omega) (fun i j hi hj e => by
      have a2 : f i ≠ f n := fun e => by have := h2 i n (by omega) (by omega) e; omega
      have a3 : f j ≠ f n := fun e => by have := h2 j n (by omega) (by omega) e; omega
      have e : (if f i = m - 1 then f n else f i) = (if f j = m - 1 then f n else f j) := e
      apply h2 i j (by omega) (by omega)
      split at e <;> split at e <;> omega)
    omega
def HT (SL : Nat → Nat) (KY OV : Nat → Int64) (k : Nat) : Prop :=
  (∀ s, s < 4096 → SL s ≤ k) ∧ (∀ s s', s < 4096 → s' < 4096 → SL s ≠ 0 → SL s = SL s' → s = s') ∧
  (∀ m, m < k → ∃ d, d < 4096 ∧ SL ((hom (KY m) (OV m) + d) % 4096) = m + 1 ∧ ∀ e, e < d → SL ((hom (KY m) (OV m) + e) % 4096) ≠ 0)
theorem ht_free {SL : Nat → Nat} {KY OV : Nat → Int64} {k : Nat} (h : HT SL KY OV k) (hk : k ≤ 1500) : ∃ s, s < 4096 ∧ SL s = 0 := by
  apply Classical.byContradiction
  intro q
  have hn : ∀ s, s < 4096 → SL s ≠ 0 := fun s hs e => q ⟨s, hs, e⟩
  have := php 4096 k (fun i => SL i - 1) (fun i hi => by have a := h.1 i hi; have b := hn i hi; show SL i - 1 < k; omega) (fun i j hi hj e => by
    have a := hn i hi; have b := hn j hj
    have e : SL i - 1 = SL j - 1 := e
    exact h.2.1 i j hi hj a (by omega))
  omega
theorem sld_ok {SL : Nat → Nat} {KY OV : Nat → Int64} {k : Nat} (h : HT SL KY OV k) (hk : k ≤ 1500) (ky ov : Int64) : sld SL KY OV ky ov < 4096 ∧ stP SL KY OV (hom ky ov) ky ov (sld SL KY OV ky ov) = true ∧ ∀ j, j < sld SL KY OV ky ov → stP SL KY OV (hom ky ov) ky ov j = false := by
  obtain ⟨s, hs, h0⟩ := ht_free h hk
  have hh := hom_lt ky ov
  unfold sld
  generalize hom ky ov = hm at hh
  have e : (hm + (s + 4096 - hm) % 4096) % 4096 = s := by omega
  have := fs_ex (P := stP SL KY OV hm ky ov) (m := 4096) ⟨(s + 4096 - hm) % 4096, Nat.mod_lt _ (by decide), stP_0 (by rw [e]; exact h0)⟩
  exact this
theorem stP_e {SL : Nat → Nat} {KY OV : Nat → Int64} {h d : Nat} {ky ov : Int64} (q : stP SL KY OV h ky ov d = true) (q0 : SL ((h + d) % 4096) ≠ 0) : KY (SL ((h + d) % 4096) - 1) = ky ∧ OV (SL ((h + d) % 4096) - 1) = ov := by
  unfold stP at q
  rw [decide_eq_false q0, Bool.false_or, Bool.and_eq_true, decide_eq_true_eq, decide_eq_true_eq] at q
  exact q
theorem ht_yes {SL : Nat → Nat} {KY OV : Nat → Int64} {k : Nat} (h : HT SL KY OV k) (hk : k ≤ 1500) {ky ov : Int64} (q : SL (slt SL KY OV ky ov) ≠ 0) : ∃ m, m < k ∧ KY m = ky ∧ OV m = ov := by
  obtain ⟨h1, h2, h3⟩ := sld_ok h hk ky ov
  have e := stP_e h2 q
  have a := h.1 (slt SL KY OV ky ov) slt_lt
  exact ⟨SL (slt SL KY OV ky ov) - 1, by omega, e.1, e.2⟩
theorem ht_no {SL : Nat → Nat} {KY OV : Nat → Int64} {k : Nat} (h : HT SL KY OV k) (hk : k ≤ 1500) {ky ov : Int64} (q : SL (slt SL KY OV ky ov) = 0) : ∀ m, m < k → ¬ (KY m = ky ∧ OV m = ov) := fun m hm e => by
  obtain ⟨h1, h2, h3⟩ := sld_ok h hk ky ov
  obtain ⟨d, hd, hs, hc⟩ := h.2.2 m hm
  obtain ⟨rfl, rfl⟩ := e
  have q : SL ((hom (KY m) (OV m) + sld SL KY OV (KY m) (OV m)) % 4096) = 0 := q
  rcases Nat.lt_trichotomy (sld SL KY OV (KY m) (OV m)) d with z | z | z
  · exact hc _ z q
  · rw [z, hs] at q; cases q
  · have := h3 d z
    rw [stP_t (by rw [hs]; rfl) (by rw [hs]; rfl)] at this
    cases this
theorem ht_put {SL : Nat → Nat} {KY OV : Nat → Int64} {k : Nat} (h : HT SL KY OV k) (hk : k ≤ 1500) {ky ov : Int64} (q : SL (slt SL KY OV ky ov) = 0) : HT (va_up SL (slt SL KY OV ky ov) (k + 1)) (vp_updL KY k ky) (vp_updL OV k ov) (k + 1) := by
  obtain ⟨h1, h2, h3⟩ := sld_ok h hk ky ov
  have hsl : slt SL KY OV ky ov = (hom ky ov + sld SL KY OV ky ov) % 4096 := rfl
  have hlt := slt_lt (SL := SL) (KY := KY) (OV := OV) (ky := ky) (ov := ov)
  generalize hs9 : slt SL KY OV ky ov = s9 at *
  refine ⟨fun s hs => ?_, fun s s' hs hs' hn e => ?_, fun m hm => ?_⟩
  · unfold va_up; split
    · omega
    · have := h.1 s hs; omega
  · unfold va_up at hn e
    have a := h.1 s hs
    have a' := h.1 s' hs'
    by_cases z : s = s9
    · by_cases z' : s' = s9
      · rw [z, z']
      · rw [if_pos z, if_neg z'] at e; omega
    · by_cases z' : s' = s9
      · rw [if_neg z, if_pos z'] at e; omega
      · rw [if_neg z, if_neg z'] at e; rw [if_neg z] at hn; exact h.2.1 s s' hs hs' hn e
  · by_cases z : m = k
    · subst z
      rw [show vp_updL KY m ky m = ky from if_pos rfl, show vp_updL OV m ov m = ov from if_pos rfl]
      refine ⟨_, h1, by rw [← hsl, va_up_self], fun e he => ?_⟩
      have := h3 e he
      unfold va_up
      split
      · omega
      · intro z0; rw [stP_0 z0] at this; cases this
    · rw [show vp_updL KY k ky m = KY m from if_neg z, show vp_updL OV k ov m = OV m from if_neg z]
      obtain ⟨d, hd, hs, hc⟩ := h.2.2 m (by omega)
      refine ⟨d, hd, ?_, fun e he => ?_⟩
      · unfold va_up
        split
        · rename_i z0; rw [z0, q] at hs; cases hs
        · exact hs
      · unfold va_up
        split
        · omega
        · exact hc e he
theorem ht_0 {SL : Nat → Nat} {KY OV : Nat → Int64} (h0 : ∀ s, s < 4096 → SL s = 0) : HT SL KY OV 0 := ⟨fun s hs => by rw [h0 s hs]; exact Nat.le_refl _, fun s _ hs _ h _ => absurd (h0 s hs) h, fun m hm => absurd hm (Nat.not_lt_zero _)⟩


-- figures as the reference keeps them
def FR (fi : Nat) (BY BS BN : Nat → Nat) (Fl : Nat → Nat) (FB : Nat → Nat → Nat) : Prop := ∀ f, f < fi → BY f = Fl f ∧ Fl f ≤ 200 ∧ ∀ i, i < Fl f → BS (200 * f + i) = FB f i / 8 ∧ BN (200 * f + i) = FB f i % 8 ∧ FB f i < 56
theorem beatF_v {b0 bt : Nat} {F : FS} (hF : FOK F) : (beatF b0 bt F).1 = 1 ∨ (beatF b0 bt F).1 = -1 ∨ (beatF b0 bt F).1 = -2 ∨ (beatF b0 bt F).1 = -5 := by
  unfold beatF
  split
  · split
    · exact Or.inl rfl
    · exact chg_v hF.1
  · split
    · exact Or.inr (Or.inr (Or.inl rfl))
    · split
      · exact Or.inl rfl
      · exact chg_v hF.1
theorem bt_v {b0 bt : Nat} {F F4 : FS} {a : Int32} (hF : FOK F) (h : beatF b0 bt F = (a, F4)) : (a ≤ 0 ↔ ¬ a = 1) ∧ (a < 0 ↔ ¬ a = 1) := by
  have := beatF_v (b0 := b0) (bt := bt) hF
  rw [h] at this
  exact sg1 this
theorem bt_1 {b0 bt : Nat} {F F4 : FS} {a : Int32} (hF : FOK F) (h : beatF b0 bt F = (a, F4)) (hc : 0 ≤ a) : a = 1 := Decidable.not_not.mp (fun q => absurd ((bt_v hF h).2.mpr q) (Int32.not_lt.mpr hc))
theorem bt_n {b0 bt : Nat} {F F4 : FS} {a : Int32} (hF : FOK F) (h : beatF b0 bt F = (a, F4)) (hc : ¬ 0 ≤ a) : ¬ a = 1 ∧ ¬ a = 0 := ⟨(bt_v hF h).2.mp (Int32.not_le.mp hc), fun q => hc (by rw [q]; decide)⟩
theorem bt_at {bt : Nat} {F : FS} (h6 : ¬ bt / 8 = 6) (hb : bt < 56) : beatF 0 bt F = atR F (bt / 8) (bt % 8) := by
  rw [bt_fa h6, atR_c (by omega)]
def tbk (S : Nat) : Nat := if S = 0 then 1 else if S = 1 then 0 else if S = 3 then 7 else S
theorem tbk_8 {S : Nat} (h : S < 7) : tbk S < 8 := by unfold tbk; split <;> (try split) <;> (try split) <;> omega
theorem bt_bk {bt : Nat} {F : FS} (h4 : ¬ bt / 8 = 4) (h5 : ¬ bt / 8 = 5) (h6 : ¬ bt / 8 = 6) (hb : bt < 56) : beatF 1 bt F = atR F (tbk (bt / 8)) (bt % 8) := by
  rw [bt_ba (by decide) h4 h5 h6]
  rcases (show bt / 8 = 0 ∨ bt / 8 = 1 ∨ bt / 8 = 2 ∨ bt / 8 = 3 by omega) with e | e | e | e
  · rw [e, atR_c (by decide)]; rfl
  · rw [e, atR_c (by decide)]; rfl
  · rw [e, atR_c (by decide)]; rfl
  · rw [e]; rfl
theorem atR_ok {F : FS} {S K : Nat} (h : FOK F) : FOK (atR F S K).2 ∧ wn (atR F S K).2.1 = wn F.1 := attF_ok h
theorem rn_end {B : Nat → Nat} {len b0 i : Nat} {F F3 F4 : FS} {a : Int32} (h : rn B len b0 F i = (i, 0, F3)) (hb : beatF b0 (B (bix len b0 i)) F3 = (a, F4)) (h1 : ¬ a = 1 ∧ ¬ a = 0) (hi : i < len) : rn B len b0 F len = (i, a, F4) := by
  have := rn_stop h hb h1.1 h1.2 (len - (i + 1))
  rwa [show i + 1 + (len - (i + 1)) = len by omega] at this
theorem dnF_y {R : Nat × Int32 × FS} {i : Nat} {F4 : FS} (h : R = (i, 0, F4)) : dnF R = nI i := by rw [h]; exact if_pos rfl
theorem dnF_n {R : Nat × Int32 × FS} {i : Nat} {a : Int32} {F4 : FS} (h : R = (i, a, F4)) (ha : ¬ a = 0) : dnF R = -100 - nI i := by rw [h]; exact if_neg ha
theorem rn_ok {B : Nat → Nat} {len b0 : Nat} {F : FS} (h : FOK F) : ∀ j, FOK (rn B len b0 F j).2.2 ∧ wn (rn B len b0 F j).2.2.1 = wn F.1 ∧ (rn B len b0 F j).1 ≤ j
  | 0 => ⟨h, rfl, Nat.le_refl _⟩
  | j + 1 => by
    obtain ⟨h1, h2, h3⟩ := rn_ok (B := B) (len := len) (b0 := b0) h j
    have hb : ∀ bt, FOK (beatF b0 bt (rn B len b0 F j).2.2).2 ∧ wn (beatF b0 bt (rn B len b0 F j).2.2).2.1 = wn (rn B len b0 F j).2.2.1 := fun bt => by
      refine ⟨beatF_fok h1, ?_⟩
      unfold beatF
      split
      · split
        · rfl
        · exact (attF_ok h1).2
      · split
        · rfl
        · split
          · rfl
          · exact (attF_ok h1).2
    rw [rn]
    split
    · split
      · exact ⟨(hb _).1, (hb _).2.trans h2, by dsimp only; omega⟩
      · exact ⟨(hb _).1, (hb _).2.trans h2, by dsimp only; omega⟩
    · exact ⟨h1, h2, by omega⟩
theorem dnn : ∀ k, k ≤ 200 → ¬ (0 : Int32) ≤ -100 - nI k := by
  have h : ∀ k, k < 201 → ¬ (0 : Int32) ≤ -100 - nI k := by decide +kernel
  exact fun k hk => h k (by omega)
theorem dn_ge {R : Nat × Int32 × FS} (h : R.1 ≤ 200) : 0 ≤ dnF R ↔ R.2.1 = 0 := by
  unfold dnF
  by_cases q : R.2.1 = 0
  · rw [if_pos q]
    exact ⟨fun _ => q, fun _ => nI_pos' (by omega)⟩
  · rw [if_neg q]
    refine ⟨fun z => absurd z ?_, fun z => absurd z q⟩
    exact dnn _ h
theorem asW_pk {w v : WT} {P : Nat → Nat} (hw : WOK w) (hv : WOK v) (hn : wn v = wn w) (hP : ∀ i, i < wn w → P i = wp w i) : pk P (wn w) = pk (wp v) (wn w) ↔ ∀ p, p < wn w → wd w p = wd v p := by
  have h8 := hw.1.2
  obtain ⟨a1, a2, a3, a4⟩ := hw.2.1
  obtain ⟨b1, b2, b3, b4⟩ := hv.2.1
  rw [hn] at b1 b2 b3 b4
  rw [pk_congr hP]
  constructor
  · intro e p hp
    have h := pk_inj (fun i hi => by have := a2 i hi; omega) (fun i hi => by have := b2 i hi; omega) e
    have h1 := h _ (a1 p hp)
    rw [a4 p hp] at h1
    have h2 := b3 (wd w p) (a1 p hp)
    rw [← h1] at h2
    exact h2.symm
  · intro h
    apply pk_congr
    intro i hi
    have h1 := h _ (a2 i hi)
    rw [a3 i hi] at h1
    have h2 := b4 (wp w i) (a2 i hi)
    rw [← h1] at h2
    exact h2.symm
/-- poses as the reference keeps them -/
def PR (ps n : Nat) (QP QF QH : Nat → Nat) (QO : Nat → Int64) (Po : Nat → WT) : Prop := ∀ j, j < ps → WOK (Po j) ∧ wn (Po j) = n ∧ QP j = pk (wp (Po j)) n ∧ QF j = wf (Po j) ∧ QH j = wh (Po j) ∧ QO j = lN (wo (Po j))
theorem PR_up {ps n : Nat} {QP QF QH : Nat → Nat} {QO : Nat → Int64} {Po : Nat → WT} {w : WT} {x : Nat} (h : PR ps n QP QF QH QO Po) (hw : WOK w) (hn : wn w = n) (hx : x = pk (wp w) n) : PR (ps + 1) n (va_up QP ps x) (va_up QF ps (wf w)) (va_up QH ps (wh w)) (vp_updL QO ps (lN (wo w))) (va_up Po ps w) := fun j hj => by
  rw [updL_va]
  by_cases e : j = ps
  · subst e
    rw [va_up_self, va_up_self, va_up_self, va_up_self, va_up_self]
    exact ⟨hw, hn, hx, rfl, rfl, rfl⟩
  · rw [va_up_ne _ _ e, va_up_ne _ _ e, va_up_ne _ _ e, va_up_ne _ _ e, va_up_ne _ _ e]
    exact h j (by omega)
/-- the places from dancer 0 on -/
def trn (n : Nat) (P : Nat → Nat) : Nat → Nat := fun i => (P i + n - P 0) % n
theorem trn_lt {n : Nat} {P : Nat → Nat} (h : 0 < n) (i : Nat) : trn n P i < n := Nat.mod_lt _ h
theorem trn_pls {n : Nat} {P : Nat → Nat} (h : ∀ i, i < n → P i < n) (h0 : 0 < n) : ∀ i, i < n → pls n ((n - P 0) % n) P i = trn n P i := fun i hi => by
  unfold pls trn
  rw [Nat.add_mod_mod, Nat.add_sub_assoc (Nat.le_of_lt (h 0 h0))]
theorem perm_eq {n : Nat} {da db pl pm : Nat → Nat} (h1 : Perm n da pl) (h2 : Perm n db pm) : (∀ p, p < n → da p = db p) ↔ ∀ i, i < n → pl i = pm i := by
  obtain ⟨a1, a2, a3, a4⟩ := h1
  obtain ⟨b1, b2, b3, b4⟩ := h2
  constructor
  · intro h i hi
    have q1 := h _ (a2 i hi)
    rw [a3 i hi] at q1
    have q2 := b4 _ (a2 i hi)
    rw [← q1] at q2
    exact q2.symm
  · intro h p hp
    have q1 := h _ (a1 p hp)
    rw [a4 p hp] at q1
    have q2 := b3 _ (a1 p hp)
    rw [← q1] at q2
    exact q2.symm
theorem alk_iff {w v : WT} (hw : WOK w) (hv : WOK v) (hn : wn v = wn w) : (∀ p, p < wn w → rot (wn w) ((wn w - wp w 0) % wn w) (wd w) p = rot (wn w) ((wn w - wp v 0) % wn w) (wd v) p) ↔ ∀ i, i < wn w → trn (wn w) (wp w) i = trn (wn w) (wp v) i := by
  have h0 : 0 < wn w := by have := hw.1.1; omega
  have hv2 := hv.2.1
  rw [hn] at hv2
  have p1 := rot_perm hw.2.1 h0 (Nat.mod_lt (wn w - wp w 0) h0)
  have p2 := rot_perm hv2 h0 (Nat.mod_lt (wn w - wp v 0) h0)
  rw [perm_eq p1 p2]
  constructor
  · intro h i hi
    rw [← trn_pls hw.2.1.2.1 h0 i hi, ← trn_pls hv2.2.1 h0 i hi]
    exact h i hi
  · intro h i hi
    rw [trn_pls hw.2.1.2.1 h0 i hi, trn_pls hv2.2.1 h0 i hi]
    exact h i hi
theorem trn_pk {n : Nat} {P Q : Nat → Nat} (h0 : 0 < n) (h8 : n ≤ 8) : pk (trn n P) n = pk (trn n Q) n ↔ ∀ i, i < n → trn n P i = trn n Q i :=
  ⟨fun e => pk_inj (fun i _ => by have := trn_lt (P := P) h0 i; omega) (fun i _ => by have := trn_lt (P := Q) h0 i; omega) e, fun h => pk_congr h⟩
theorem trn_c {n : Nat} {P Q : Nat → Nat} (h0 : 0 < n) (h : ∀ i, i < n → P i = Q i) : ∀ i, i < n → trn n P i = trn n Q i := fun i hi => by unfold trn; rw [h i hi, h 0 h0]


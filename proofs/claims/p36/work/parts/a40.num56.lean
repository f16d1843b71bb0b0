-- what a run answers and weaves doesn't hang on the pool of the past
theorem rn_step {B : Nat → Nat} {len b0 j : Nat} {F0 : FS} {X : Nat × Int32 × FS} {Y : Int32 × FS} (h : rn B len b0 F0 j = X) (hb : beatF b0 (B (bix len b0 j)) X.2.2 = Y) : rn B len b0 F0 (j + 1) = if X.2.1 = 0 then (if Y.1 = 1 then (X.1 + 1, 0, Y.2) else (X.1, Y.1, Y.2)) else X := by
  rw [rn, h, hb]
def rnQ (X Y : Nat × Int32 × FS) : Prop := X.1 = Y.1 ∧ X.2.1 = Y.2.1 ∧ X.2.2.1 = Y.2.2.1
theorem rn_pool {B : Nat → Nat} {len b0 : Nat} {F G : FS} (h : F.1 = G.1) : ∀ j, rnQ (rn B len b0 F j) (rn B len b0 G j)
  | 0 => ⟨rfl, rfl, h⟩
  | j + 1 => by
    have ih := rn_pool (B := B) (len := len) (b0 := b0) h j
    obtain ⟨X, hX⟩ : ∃ X, rn B len b0 F j = X := ⟨_, rfl⟩
    obtain ⟨Y, hY⟩ : ∃ Y, rn B len b0 G j = Y := ⟨_, rfl⟩
    rw [hX, hY] at ih
    obtain ⟨h1, h2, h3⟩ := ih
    have hb := beatF_pool (b0 := b0) (bt := B (bix len b0 j)) h3
    obtain ⟨U, hU⟩ : ∃ U, beatF b0 (B (bix len b0 j)) X.2.2 = U := ⟨_, rfl⟩
    obtain ⟨V, hV⟩ : ∃ V, beatF b0 (B (bix len b0 j)) Y.2.2 = V := ⟨_, rfl⟩
    rw [hU, hV] at hb
    rw [rn_step hX hU, rn_step hY hV, h2, hb.1]
    by_cases c1 : Y.2.1 = 0
    · rw [if_pos c1, if_pos c1]
      by_cases c2 : V.1 = 1
      · rw [if_pos c2, if_pos c2]; exact ⟨congrArg (· + 1) h1, rfl, hb.2⟩
      · rw [if_neg c2, if_neg c2]; exact ⟨h1, rfl, hb.2⟩
    · rw [if_neg c1, if_neg c1]; exact ⟨h1, h2, h3⟩
theorem orA_step {B : Nat → Nat} {len : Nat} {w : WT} {f c : Nat} {F : FS} {X : Nat × Int32 × FS} (h : rn B len 0 F len = X) : orA B len w (f + 1) F c = if X.2.1 = 0 then (if asW X.2.2.1 w then nI (c + 1) else orA B len w f X.2.2 (c + 1)) else -2 := by
  rw [orA, h]
theorem orA_pool {B : Nat → Nat} {len : Nat} {w : WT} : ∀ (f c : Nat) {F G : FS}, F.1 = G.1 → orA B len w f F c = orA B len w f G c
  | 0, _, _, _, _ => rfl
  | f + 1, c, F, G, h => by
    have hp := rn_pool (B := B) (len := len) (b0 := 0) h len
    obtain ⟨X, hX⟩ : ∃ X, rn B len 0 F len = X := ⟨_, rfl⟩
    obtain ⟨Y, hY⟩ : ∃ Y, rn B len 0 G len = Y := ⟨_, rfl⟩
    rw [hX, hY] at hp
    obtain ⟨h1, h2, h3⟩ := hp
    rw [orA_step hX, orA_step hY, h2, h3]
    by_cases c1 : Y.2.1 = 0
    · rw [if_pos c1, if_pos c1]
      by_cases c2 : asW Y.2.2.1 w
      · rw [if_pos c2, if_pos c2]
      · rw [if_neg c2, if_neg c2]; exact orA_pool f (c + 1) h3
    · rw [if_neg c1, if_neg c1]
/-- mirrors: a figure, then back -/
theorem mir_pool {B : Nat → Nat} {len : Nat} {F G : FS} (h : F.1 = G.1) : (rn B len 0 F len).2.1 = (rn B len 0 G len).2.1 ∧ (rn B len 1 (rn B len 0 F len).2.2 len).2.1 = (rn B len 1 (rn B len 0 G len).2.2 len).2.1 :=
  ⟨(rn_pool h len).2.1, (rn_pool (rn_pool h len).2.2 len).2.1⟩
-- the pool stays sound
theorem pfA_e0 {FB : Nat → Nat → Nat} {Fl : Nat → Nat} {fc : Nat} {V : Nat → Nat} {len : Nat} : ∀ (d c : Nat) (S : FS × Int32 × Int32), d + c = len → FOK S.1 → FOK (pfA FB Fl fc V len d S c).2.1 ∧ wn (pfA FB Fl fc V len d S c).2.1.1 = wn S.1.1
  | 0, c, S, hd, hF => by
    have e := pfA_0 (FB := FB) (Fl := Fl) (fc := fc) (V := V) (S := S) (show c = len by omega)
    rw [show len - c = 0 by omega] at e
    rw [e]; exact ⟨hF, rfl⟩
  | d + 1, c, S, hd, hF => by
    have hc : c < len := by omega
    have e1 : len - c = d + 1 := by omega
    have e2 : len - (c + 1) = d := by omega
    by_cases h : V c < fc
    · have hok := rn_ok (B := FB (V c)) (len := Fl (V c)) (b0 := 0) hF (Fl (V c))
      by_cases h2 : dnF (rn (FB (V c)) (Fl (V c)) 0 S.1 (Fl (V c))) < 0
      · have e := pfA_s (len := len) hc h h2
        rw [e1] at e
        rw [e]; exact ⟨hok.1, hok.2.1⟩
      · have e := pfA_g (len := len) hc h h2
        rw [e1, e2] at e
        rw [e]
        exact ⟨(pfA_e0 d (c + 1) _ (by omega) hok.1).1, ((pfA_e0 d (c + 1) _ (by omega) hok.1).2).trans hok.2.1⟩
    · have e := pfA_n (FB := FB) (Fl := Fl) (S := S) hc h
      rw [e1, e2] at e
      rw [e]; exact pfA_e0 d (c + 1) S (by omega) hF
theorem scA_e0 {C : Nat → Int32} {sz n : Nat} {f0 : Int32} : ∀ (d c : Nat) (F : FS), d + c = n → FOK F → FOK (scA C sz f0 n d F c).2 ∧ wn (scA C sz f0 n d F c).2.1 = wn F.1
  | 0, c, F, hd, hF => by
    have e := scA_0 (C := C) (sz := sz) (f0 := f0) (F := F) (show c = n by omega)
    rw [show n - c = 0 by omega] at e
    rw [e]; exact ⟨hF, rfl⟩
  | d + 1, c, F, hd, hF => by
    have hc : c < n := by omega
    have e1 : n - c = d + 1 := by omega
    have e2 : n - (c + 1) = d := by omega
    by_cases h : isI (f0 + nI (2 * c)) sz ∧ isI (f0 + nI (2 * c) + nI 1) sz
    · have hok := attF_ok (s := C (f0 + nI (2 * c)).toNatClampNeg) (k := C (f0 + nI (2 * c) + nI 1).toNatClampNeg) hF
      by_cases h1 : (attF (C (f0 + nI (2 * c)).toNatClampNeg) (C (f0 + nI (2 * c) + nI 1).toNatClampNeg) F).1 = 1
      · have e := scA_g hc h h1
        rw [e1, e2] at e
        rw [e]
        have ih := scA_e0 (C := C) (sz := sz) (n := n) (f0 := f0) d (c + 1) _ (by omega) hok.1
        exact ⟨ih.1, ih.2.trans hok.2⟩
      · have e := scA_s hc h h1
        rw [e1] at e
        rw [e]; exact hok
    · have e := scA_b (C := C) (F := F) hc h
      rw [e1] at e
      rw [e]; exact ⟨hF, rfl⟩
theorem tkR_ok {Fl : Nat → Nat} {FB : Nat → Nat → Nat} {kn len : Nat} {T : Nat → Nat} {p0 : PS} (h : POK p0) (hFB : ∀ j i, FB j i < 64) (hkn : kn ≤ 8) (hT : ∀ i, T i < 256) : ∀ i, POK (tkR Fl FB kn T len p0 i).2.1
  | 0 => h
  | i + 1 => by
    have ih := tkR_ok (Fl := Fl) (len := len) h hFB hkn hT i
    rw [tkR]
    obtain ⟨X, hX⟩ : ∃ X, tkR Fl FB kn T len p0 i = X := ⟨_, rfl⟩
    rw [hX] at ih ⊢
    unfold tkS
    have hv := lxV_lt (len := len) (q := X.1) hT
    split
    · exact tkAny_ok ih hFB hkn (fun _ => hv.1) hv.2
    · exact ih
theorem VR_mono {vi fi fi2 : Nat} {DM DA Vl : Nat → Nat} {VV : Nat → Nat → Nat} (h : VR vi fi DM DA Vl VV) (hf : fi ≤ fi2) : VR vi fi2 DM DA Vl VV :=
  ⟨fun v hv => ⟨(h.1 v hv).1, (h.1 v hv).2.1, fun i hi => ⟨((h.1 v hv).2.2 i hi).1, Nat.lt_of_lt_of_le ((h.1 v hv).2.2 i hi).2 hf⟩⟩, h.2⟩
theorem Perm_inv {n : Nat} {d1 d2 p1 p2 : Nat → Nat} (h1 : Perm n d1 p1) (h2 : Perm n d2 p2) (h : ∀ i, i < n → d1 i = d2 i) : ∀ i, i < n → p1 i = p2 i := fun i hi => by
  have a := h1.2.1 i hi
  have c := h2.2.2.2 (p1 i) a
  rw [← h _ a, h1.2.2.1 i hi] at c
  exact c.symm
theorem weq_wp {a b : WT} (ha : WOK a) (hb : WOK b) (h : weq a b) : ∀ i, i < wn a → wp a i = wp b i :=
  Perm_inv ha.2.1 (by rw [h.1]; exact hb.2.1) h.2.1
theorem PR_weq {ps n k : Nat} {QP QF QH : Nat → Nat} {QO : Nat → Int64} {Po : Nat → WT} {t : WT} (h : PR ps n QP QF QH QO Po) (ht : WOK t) (hw : k < ps → weq t (Po k)) : PR ps n QP QF QH QO (va_up Po k t) := fun j hj => by
  by_cases e : j = k
  · subst e
    rw [va_up_self]
    obtain ⟨h1, h2, h3, h4, h5, h6⟩ := h j hj
    have q := hw hj
    have qn : wn t = n := q.1.trans h2
    refine ⟨ht, qn, h3.trans (pk_congr fun i hi => ((weq_wp ht h1 q i (by omega))).symm), h4.trans q.2.2.1.symm, h5.trans q.2.2.2.1.symm, by rw [h6, q.2.2.2.2]⟩
  · rw [va_up_ne _ _ e]
    exact h j hj


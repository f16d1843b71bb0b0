-- the search: what is met, from whom and by which act
abbrev QS : Type := (Nat → WT) × (Nat → Nat) × (Nat → Nat) × Nat × Nat
def qM (Q : QS) : Nat → WT := Q.1
def qp (Q : QS) : Nat → Nat := Q.2.1
def qa (Q : QS) : Nat → Nat := Q.2.2.1
def qk (Q : QS) : Nat := Q.2.2.2.1
def qg (Q : QS) : Nat := Q.2.2.2.2
def smW (a w : WT) : Bool := decide (kyW a = kyW w) && decide (lN (wo a) = lN (wo w))
def isMet (Q : QS) (w : WT) : Bool := decide (fs (fun m => smW (qM Q m) w) (qk Q) < qk Q)
def mt (Q : QS) (w t : WT) (gk : Int64) (p a : Nat) : QS := if isMet Q w = true ∨ 1500 ≤ qk Q then Q else (va_up (qM Q) (qk Q) w, va_up (qp Q) (qk Q) p, va_up (qa Q) (qk Q) a, qk Q + 1, if gB w t gk = true then qk Q + 1 else qg Q)
def gOn (Q : QS) : Bool := decide (qg Q = 0) && decide (qk Q < 1500)
noncomputable def aS (t : WT) (gk : Int64) (Q : QS) (m : Nat) : Nat → QS
  | 0 => Q
  | a + 1 => if gOn (aS t gk Q m a) = true then (if (chg (qM Q m) (nI (a % 2)) (nI (a / 2))).1 = 1 then mt (aS t gk Q m a) (chg (qM Q m) (nI (a % 2)) (nI (a / 2))).2 t gk m a else aS t gk Q m a) else aS t gk Q m a
theorem aS_stop {t : WT} {gk : Int64} {Q : QS} {m a : Nat} (h : gOn (aS t gk Q m a) = false) : ∀ j, aS t gk Q m (a + j) = aS t gk Q m a
  | 0 => rfl
  | j + 1 => by
    show (if gOn (aS t gk Q m (a + j)) = true then _ else aS t gk Q m (a + j)) = _
    rw [aS_stop h j, h, if_neg Bool.false_ne_true]
def SRel (SE OV KY : Nat → Int64) (PA AC : Nat → Int32) (SL : Nat → Nat) (go : Int32) (Q : QS) (n f h : Nat) : Prop :=
  qk Q ≤ 1500 ∧ HT SL KY OV (qk Q) ∧
  (∀ m, m < qk Q → (WOK (qM Q m) ∧ wn (qM Q m) = n ∧ wf (qM Q m) = f ∧ wh (qM Q m) = h) ∧ (SE m = lN (sea (wd (qM Q m)) n) ∧ OV m = lN (wo (qM Q m)) ∧ KY m = kyW (qM Q m)) ∧ PA m = (if m = 0 then -1 else nI (qp Q m)) ∧ AC m = nI (qa Q m) ∧ (m = 0 ∨ qp Q m < m) ∧ qa Q m < 16) ∧
  go = (if qg Q = 0 then -1 else nI (qg Q - 1)) ∧ qg Q ≤ qk Q
theorem fs_lt_iff {P : Nat → Bool} {k : Nat} : fs P k < k ↔ ∃ m, m < k ∧ P m = true := by
  constructor
  · intro h
    apply Classical.byContradiction
    intro q
    rw [fs_no (fun j hj => by cases z : P j; rfl; exact absurd ⟨j, hj, z⟩ q)] at h
    omega
  · intro h
    exact (fs_ex h).1
theorem smW_t {a w : WT} : smW a w = true ↔ kyW a = kyW w ∧ lN (wo a) = lN (wo w) := by
  unfold smW; rw [Bool.and_eq_true, decide_eq_true_eq, decide_eq_true_eq]
theorem isMet_iff {SE OV KY : Nat → Int64} {PA AC : Nat → Int32} {SL : Nat → Nat} {go : Int32} {Q : QS} {n f h : Nat} (R : SRel SE OV KY PA AC SL go Q n f h) (w : WT) : isMet Q w = true ↔ SL (slt SL KY OV (kyW w) (lN (wo w))) ≠ 0 := by
  unfold isMet
  rw [decide_eq_true_eq, fs_lt_iff]
  constructor
  · rintro ⟨m, hm, hs⟩ e
    have hs := smW_t.mp hs
    have hm2 := (R.2.2.1 m hm).2.1
    exact ht_no R.2.1 R.1 e m hm ⟨hm2.2.2.trans hs.1, hm2.2.1.trans hs.2⟩
  · intro q
    obtain ⟨m, hm, e1, e2⟩ := ht_yes R.2.1 R.1 q
    have hm2 := (R.2.2.1 m hm).2.1
    exact ⟨m, hm, smW_t.mpr ⟨hm2.2.2.symm.trans e1, hm2.2.1.symm.trans e2⟩⟩
theorem mt_no {Q : QS} {w t : WT} {gk : Int64} {p a : Nat} (h : isMet Q w = true ∨ 1500 ≤ qk Q) : mt Q w t gk p a = Q := if_pos h
theorem mt_yes {Q : QS} {w t : WT} {gk : Int64} {p a : Nat} (h : ¬ isMet Q w = true) (h2 : qk Q < 1500) : mt Q w t gk p a = (va_up (qM Q) (qk Q) w, va_up (qp Q) (qk Q) p, va_up (qa Q) (qk Q) a, qk Q + 1, if gB w t gk = true then qk Q + 1 else qg Q) := if_neg (by rintro (e | e); exact h e; omega)
theorem mt_rel {SE OV KY : Nat → Int64} {PA AC : Nat → Int32} {SL : Nat → Nat} {go : Int32} {Q : QS} {n f h : Nat} (R : SRel SE OV KY PA AC SL go Q n f h) {w t : WT} {gk : Int64} {p a s9 : Nat} (hw : WOK w) (h1 : wn w = n) (h2 : wf w = f) (h3 : wh w = h) (hp : qk Q = 0 ∨ p < qk Q) (ha : a < 16) {pr : Int32} (hpr : pr = if qk Q = 0 then -1 else nI p)
    (hs : slt SL KY OV (kyW w) (lN (wo w)) = s9) (h0 : SL s9 = 0) (hk : qk Q < 1500) :
    SRel (vp_updL SE (qk Q) (lN (sea (wd w) (wn w)))) (vp_updL OV (qk Q) (lN (wo w))) (vp_updL KY (qk Q) (kyW w)) (upd PA (qk Q) pr) (upd AC (qk Q) (nI a)) (va_up SL s9 (qk Q + 1)) (if gB w t gk = true then nI (qk Q) else go) (mt Q w t gk p a) n f h := by
  subst hs
  rw [mt_yes (fun e => (isMet_iff R w).mp e h0) hk]
  refine ⟨hk, ht_put R.2.1 R.1 h0, fun m hm => ?_, ?_, ?_⟩
  · have hm : m < qk Q + 1 := hm
    by_cases z : m = qk Q
    · subst z
      show (WOK (va_up (qM Q) (qk Q) w (qk Q)) ∧ wn (va_up (qM Q) (qk Q) w (qk Q)) = n ∧ wf (va_up (qM Q) (qk Q) w (qk Q)) = f ∧ wh (va_up (qM Q) (qk Q) w (qk Q)) = h) ∧ (vp_updL SE (qk Q) (lN (sea (wd w) (wn w))) (qk Q) = lN (sea (wd (va_up (qM Q) (qk Q) w (qk Q))) n) ∧ vp_updL OV (qk Q) (lN (wo w)) (qk Q) = lN (wo (va_up (qM Q) (qk Q) w (qk Q))) ∧ vp_updL KY (qk Q) (kyW w) (qk Q) = kyW (va_up (qM Q) (qk Q) w (qk Q))) ∧ upd PA (qk Q) pr (qk Q) = (if qk Q = 0 then -1 else nI (va_up (qp Q) (qk Q) p (qk Q))) ∧ upd AC (qk Q) (nI a) (qk Q) = nI (va_up (qa Q) (qk Q) a (qk Q)) ∧ (qk Q = 0 ∨ va_up (qp Q) (qk Q) p (qk Q) < qk Q) ∧ va_up (qa Q) (qk Q) a (qk Q) < 16
      rw [va_up_self, va_up_self, va_up_self]
      refine ⟨⟨hw, h1, h2, h3⟩, ⟨?_, if_pos rfl, if_pos rfl⟩, ?_, if_pos rfl, hp, ha⟩
      · rw [← h1]; exact if_pos rfl
      · rw [← hpr]; exact if_pos rfl
    · have hm2 := R.2.2.1 m (by omega)
      show (WOK (va_up (qM Q) (qk Q) w m) ∧ wn (va_up (qM Q) (qk Q) w m) = n ∧ wf (va_up (qM Q) (qk Q) w m) = f ∧ wh (va_up (qM Q) (qk Q) w m) = h) ∧ (vp_updL SE (qk Q) (lN (sea (wd w) (wn w))) m = lN (sea (wd (va_up (qM Q) (qk Q) w m)) n) ∧ vp_updL OV (qk Q) (lN (wo w)) m = lN (wo (va_up (qM Q) (qk Q) w m)) ∧ vp_updL KY (qk Q) (kyW w) m = kyW (va_up (qM Q) (qk Q) w m)) ∧ upd PA (qk Q) pr m = (if m = 0 then -1 else nI (va_up (qp Q) (qk Q) p m)) ∧ upd AC (qk Q) (nI a) m = nI (va_up (qa Q) (qk Q) a m) ∧ (m = 0 ∨ va_up (qp Q) (qk Q) p m < m) ∧ va_up (qa Q) (qk Q) a m < 16
      rw [va_up_ne _ _ z, va_up_ne _ _ z, va_up_ne _ _ z, show vp_updL SE (qk Q) (lN (sea (wd w) (wn w))) m = SE m from if_neg z, show vp_updL OV (qk Q) (lN (wo w)) m = OV m from if_neg z, show vp_updL KY (qk Q) (kyW w) m = KY m from if_neg z, show upd PA (qk Q) pr m = PA m from if_neg z, show upd AC (qk Q) (nI a) m = AC m from if_neg z]
      exact hm2
  · show _ = (if (if gB w t gk = true then qk Q + 1 else qg Q) = 0 then (-1 : Int32) else nI ((if gB w t gk = true then qk Q + 1 else qg Q) - 1))
    by_cases z : gB w t gk = true
    · rw [if_pos z, if_pos z, if_neg (by omega)]; rfl
    · rw [if_neg z, if_neg z]; exact R.2.2.2.1
  · show (if gB w t gk = true then qk Q + 1 else qg Q) ≤ qk Q + 1
    have := R.2.2.2.2
    split <;> omega
theorem mt_k {Q : QS} {w t : WT} {gk : Int64} {p a : Nat} (h : ¬ isMet Q w = true) (h2 : qk Q < 1500) : qk (mt Q w t gk p a) = qk Q + 1 := by rw [mt_yes h h2]; rfl


-- the search: asking
theorem chg_fh {w : WT} {a : Nat} (hw : WOK w) (ha : a < 2 * wn w) : WOK (chg w (nI (a % 2)) (nI (a / 2))).2 ∧ wn (chg w (nI (a % 2)) (nI (a / 2))).2 = wn w ∧ wf (chg w (nI (a % 2)) (nI (a / 2))).2 = wf w ∧ wh (chg w (nI (a % 2)) (nI (a / 2))).2 = wh w := by
  have h0 := chg_ok (s := nI (a % 2)) (k := nI (a / 2)) hw
  refine ⟨h0.1, h0.2, ?_⟩
  have h2 : a % 2 < 2 := Nat.mod_lt _ (by decide)
  rw [chg_yes (w := w) (S := a % 2) (K := a / 2) (by omega) (by rw [if_neg (by omega)]; omega) hw]
  unfold chgN
  rw [if_pos h2]
  exact ⟨rfl, rfl⟩
theorem aS_yes {t : WT} {gk : Int64} {Q : QS} {m a : Nat} (h : gOn (aS t gk Q m a) = true) (hc : (chg (qM Q m) (nI (a % 2)) (nI (a / 2))).1 = 1) : aS t gk Q m (a + 1) = mt (aS t gk Q m a) (chg (qM Q m) (nI (a % 2)) (nI (a / 2))).2 t gk m a := by
  rw [aS, if_pos h, if_pos hc]
theorem aS_nc {t : WT} {gk : Int64} {Q : QS} {m a : Nat} (h : gOn (aS t gk Q m a) = true) (hc : ¬ (chg (qM Q m) (nI (a % 2)) (nI (a / 2))).1 = 1) : aS t gk Q m (a + 1) = aS t gk Q m a := by
  rw [aS, if_pos h, if_neg hc]
theorem mt_keep {Q : QS} {w t : WT} {gk : Int64} {p a : Nat} : qk Q ≤ qk (mt Q w t gk p a) ∧ ∀ m, m < qk Q → qM (mt Q w t gk p a) m = qM Q m := by
  unfold mt
  split
  · exact ⟨Nat.le_refl _, fun _ _ => rfl⟩
  · exact ⟨Nat.le_succ _, fun m hm => va_up_ne _ _ (by omega)⟩
theorem aS_keep {t : WT} {gk : Int64} {Q : QS} {m : Nat} : ∀ a, qk Q ≤ qk (aS t gk Q m a) ∧ ∀ x, x < qk Q → qM (aS t gk Q m a) x = qM Q x
  | 0 => ⟨Nat.le_refl _, fun _ _ => rfl⟩
  | a + 1 => by
    have ih := aS_keep (t := t) (gk := gk) (Q := Q) (m := m) a
    rw [aS]
    split
    · split
      · have h2 := mt_keep (Q := aS t gk Q m a) (w := (chg (qM Q m) (nI (a % 2)) (nI (a / 2))).2) (t := t) (gk := gk) (p := m) (a := a)
        exact ⟨Nat.le_trans ih.1 h2.1, fun x hx => (h2.2 x (by omega)).trans (ih.2 x hx)⟩
      · exact ih
    · exact ih
theorem gOn_iff {SE OV KY : Nat → Int64} {PA AC : Nat → Int32} {SL : Nat → Nat} {go : Int32} {Q : QS} {n f h : Nat} (R : SRel SE OV KY PA AC SL go Q n f h) : gOn Q = true ↔ (¬ (0 : Int32) ≤ go ∧ qk Q < 1500) := by
  unfold gOn
  rw [Bool.and_eq_true, decide_eq_true_eq, decide_eq_true_eq, R.2.2.2.1]
  have h1 := R.1
  have h2 := R.2.2.2.2
  by_cases z : qg Q = 0
  · rw [if_pos z]; exact ⟨fun q => ⟨by decide, q.2⟩, fun q => ⟨z, q.2⟩⟩
  · rw [if_neg z]
    exact ⟨fun q => absurd q.1 z, fun q => absurd ((z_ge (by omega)).mpr trivial) q.1⟩


-- the search: the way and the whole search
def wln (p : Nat → Nat) : Nat → Nat → Nat
  | 0, _ => 0
  | f + 1, m => if m = 0 then 0 else wln p f (p m) + 1
theorem wln_fuel {p : Nat → Nat} {k : Nat} (hp : ∀ m, m < k → m = 0 ∨ p m < m) : ∀ f m, m < k → m ≤ f → wln p f m = wln p m m
  | 0, m, _, h => by rw [show m = 0 by omega]
  | f + 1, m, hk, h => by
    by_cases z : m = 0
    · subst z; rfl
    · obtain ⟨x, rfl⟩ : ∃ x, m = x + 1 := ⟨m - 1, by omega⟩
      have hpx : p (x + 1) < x + 1 := by rcases hp _ hk with q | q; omega; exact q
      rw [wln, wln, if_neg z, if_neg z, wln_fuel hp f (p (x + 1)) (by omega) (by omega), wln_fuel hp x (p (x + 1)) (by omega) (by omega)]
def wlen (p : Nat → Nat) (m : Nat) : Nat := wln p m m
theorem wlen_0 {p : Nat → Nat} : wlen p 0 = 0 := rfl
theorem wlen_s {p : Nat → Nat} {k m : Nat} (hp : ∀ m, m < k → m = 0 ∨ p m < m) (hk : m < k) (h0 : 0 < m) : wlen p m = wlen p (p m) + 1 := by
  obtain ⟨x, rfl⟩ : ∃ x, m = x + 1 := ⟨m - 1, by omega⟩
  have hpx : p (x + 1) < x + 1 := by rcases hp _ hk with q | q; omega; exact q
  unfold wlen
  rw [wln, if_neg (by omega), wln_fuel hp x (p (x + 1)) (by omega) (by omega)]
theorem wlen_pos {p : Nat → Nat} {k m : Nat} (hp : ∀ m, m < k → m = 0 ∨ p m < m) (hk : m < k) (h0 : 0 < wlen p m) : 0 < m := by
  rcases Nat.eq_zero_or_pos m with z | z
  · subst z; rw [wlen_0] at h0; omega
  · exact z
def itp (p : Nat → Nat) : Nat → Nat → Nat
  | 0, m => m
  | c + 1, m => p (itp p c m)
theorem itp_ok {p : Nat → Nat} {k m : Nat} (hp : ∀ m, m < k → m = 0 ∨ p m < m) (hk : m < k) : ∀ c, c ≤ wlen p m → wlen p m = c + wlen p (itp p c m) ∧ itp p c m ≤ m
  | 0, _ => ⟨(Nat.zero_add _).symm, Nat.le_refl _⟩
  | c + 1, hc => by
    have ih := itp_ok hp hk c (by omega)
    have h0 := wlen_pos hp (m := itp p c m) (by omega) (by omega)
    have h1 := wlen_s hp (m := itp p c m) (by omega) h0
    have h2 : p (itp p c m) < itp p c m := by rcases hp (itp p c m) (by omega) with q | q; omega; exact q
    exact ⟨by rw [itp]; omega, by rw [itp]; omega⟩
def Q0 (u : WT) : QS := (fun _ => u, fun _ => 0, fun _ => 0, 0, 0)
noncomputable def srS (t : WT) (gk : Int64) (u : WT) : Nat → QS
  | 0 => mt (Q0 u) u t gk 0 0
  | m + 1 => if m < qk (srS t gk u m) ∧ gOn (srS t gk u m) = true then aS t gk (srS t gk u m) m (2 * wn u) else srS t gk u m
theorem srS_yes {t u : WT} {gk : Int64} {m : Nat} (h1 : m < qk (srS t gk u m)) (h2 : gOn (srS t gk u m) = true) : srS t gk u (m + 1) = aS t gk (srS t gk u m) m (2 * wn u) := by rw [srS, if_pos ⟨h1, h2⟩]
theorem srS_stop {t u : WT} {gk : Int64} {m : Nat} (h : ¬ (m < qk (srS t gk u m) ∧ gOn (srS t gk u m) = true)) : ∀ j, srS t gk u (m + j) = srS t gk u m
  | 0 => rfl
  | j + 1 => by
    have ih := srS_stop h j
    show srS t gk u (m + j + 1) = _
    rw [srS, ih, if_neg (fun q => h ⟨by omega, q.2⟩)]
noncomputable def srF (u t : WT) : QS := srS t (kyW t) u 1500
def ansF (Q : QS) : Int32 := if qg Q = 0 then (if 1500 ≤ qk Q then -6 else -4) else nI (wlen (qp Q) (qg Q - 1))
def weq (a b : WT) : Prop := wn a = wn b ∧ (∀ p, p < wn a → wd a p = wd b p) ∧ wf a = wf b ∧ wh a = wh b ∧ wo a = wo b
theorem weq_rfl {a : WT} : weq a a := ⟨rfl, fun _ _ => rfl, rfl, rfl, rfl⟩
theorem srel0 {SE OV KY : Nat → Int64} {PA AC : Nat → Int32} {SL : Nat → Nat} {u : WT} {n f h : Nat} (h0 : ∀ s, s < 4096 → SL s = 0) : SRel SE OV KY PA AC SL (-1) (Q0 u) n f h :=
  ⟨by show (0 : Nat) ≤ 1500; omega, ht_0 h0, fun m hm => absurd hm (Nat.not_lt_zero _), (if_pos rfl).symm, Nat.le_refl _⟩
theorem srel_p {SE OV KY : Nat → Int64} {PA AC : Nat → Int32} {SL : Nat → Nat} {go : Int32} {Q : QS} {n f h : Nat} (R : SRel SE OV KY PA AC SL go Q n f h) : ∀ m, m < qk Q → m = 0 ∨ qp Q m < m := fun m hm => (R.2.2.1 m hm).2.2.2.2.1
def SINV (SE OV KY : Nat → Int64) (PA AC : Nat → Int32) (SL : Nat → Nat) (go an9 sd : Int32) (mc : Nat) (gk : Int64) (u t : WT) : Prop :=
  mc ≤ 1500 ∧ (sd = 0 ∨ sd = 1 ∧ SRel SE OV KY PA AC SL go (srF u t) (wn u) (wf u) (wh u) ∧ mc = qk (srF u t) ∧ an9 = ansF (srF u t) ∧ gk = kyW t)
theorem wlen_le {p : Nat → Nat} {k : Nat} (hp : ∀ m, m < k → m = 0 ∨ p m < m) : ∀ {m : Nat}, m < k → wlen p m ≤ m := fun {m} => by
  induction m using Nat.strongRecOn with
  | ind m ih =>
    intro hm
    by_cases z : m = 0
    · subst z; exact Nat.le_refl _
    · have h2 : p m < m := by rcases hp m hm with q | q; omega; exact q
      rw [wlen_s hp hm (by omega)]
      have := ih (p m) h2 (by omega)
      omega
theorem nI_dec2 {a j : Nat} (h : j + 1 ≤ a) : nI (a - j) + (-1) = nI (a - (j + 1)) := by
  rw [show a - (j + 1) = a - j - 1 by omega]
  exact nI_dec (by omega)


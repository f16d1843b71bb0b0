-- the reference's own seats (as parts 29, 33, by its own hash)
theorem hoM_ex : ∃ f : Int64 → Int64 → Nat, ∀ ky ov, f ky ov = (((ky * lN 31 ^^^ ov * -7046029254386353131) * lN 2685821657736338717).toUInt64 >>> 40).toNat % 4096 := ⟨_, fun _ _ => rfl⟩
noncomputable def hoM : Int64 → Int64 → Nat := Classical.choose hoM_ex
theorem hoM_d (ky ov : Int64) : hoM ky ov = (((ky * lN 31 ^^^ ov * -7046029254386353131) * lN 2685821657736338717).toUInt64 >>> 40).toNat % 4096 := Classical.choose_spec hoM_ex ky ov
theorem hoM_lt (ky ov : Int64) : hoM ky ov < 4096 := by
  rw [hoM_d]; exact Nat.mod_lt _ (by decide)
theorem ho40 : (nI 40).toInt64.toUInt64 &&& Int64.toUInt64 63 = 40 := by decide +kernel
theorem hoM_k (ky ov : Int64) : ((((ky * lN 31 ^^^ ov * -7046029254386353131) * lN 2685821657736338717).toUInt64 >>> ((nI 40).toInt64.toUInt64 &&& Int64.toUInt64 63)).toInt64).toInt32 &&& nI 4095 = nI ((hoM ky ov + 0) % 4096) := by
  rw [ho40, u64_lN, lN_i, nx_and, Nat.add_zero, Nat.mod_eq_of_lt (hoM_lt ky ov), hoM_d]
  congr 1
  exact Nat.and_two_pow_sub_one_eq_mod _ 12
noncomputable def slM (SL : Nat → Nat) (KY OV : Nat → Int64) (ky ov : Int64) : Nat := fs (stP SL KY OV (hoM ky ov) ky ov) 4096
noncomputable def slT (SL : Nat → Nat) (KY OV : Nat → Int64) (ky ov : Int64) : Nat := (hoM ky ov + slM SL KY OV ky ov) % 4096
theorem slT_lt {SL : Nat → Nat} {KY OV : Nat → Int64} {ky ov : Int64} : slT SL KY OV ky ov < 4096 := Nat.mod_lt _ (by decide)
def HTm (SL : Nat → Nat) (KY OV : Nat → Int64) (k : Nat) : Prop :=
  (∀ s, s < 4096 → SL s ≤ k) ∧ (∀ s s', s < 4096 → s' < 4096 → SL s ≠ 0 → SL s = SL s' → s = s') ∧
  (∀ m, m < k → ∃ d, d < 4096 ∧ SL ((hoM (KY m) (OV m) + d) % 4096) = m + 1 ∧ ∀ e, e < d → SL ((hoM (KY m) (OV m) + e) % 4096) ≠ 0)
theorem hm_free {SL : Nat → Nat} {KY OV : Nat → Int64} {k : Nat} (h : HTm SL KY OV k) (hk : k ≤ 1500) : ∃ s, s < 4096 ∧ SL s = 0 := by
  apply Classical.byContradiction
  intro q
  have hn : ∀ s, s < 4096 → SL s ≠ 0 := fun s hs e => q ⟨s, hs, e⟩
  have := php 4096 k (fun i => SL i - 1) (fun i hi => by have a := h.1 i hi; have b := hn i hi; show SL i - 1 < k; omega) (fun i j hi hj e => by
    have a := hn i hi; have b := hn j hj
    have e : SL i - 1 = SL j - 1 := e
    exact h.2.1 i j hi hj a (by omega))
  omega
theorem slM_ok {SL : Nat → Nat} {KY OV : Nat → Int64} {k : Nat} (h : HTm SL KY OV k) (hk : k ≤ 1500) (ky ov : Int64) : slM SL KY OV ky ov < 4096 ∧ stP SL KY OV (hoM ky ov) ky ov (slM SL KY OV ky ov) = true ∧ ∀ j, j < slM SL KY OV ky ov → stP SL KY OV (hoM ky ov) ky ov j = false := by
  obtain ⟨s, hs, h0⟩ := hm_free h hk
  have hh := hoM_lt ky ov
  unfold slM
  generalize hoM ky ov = hm at hh
  have e : (hm + (s + 4096 - hm) % 4096) % 4096 = s := by omega
  have := fs_ex (P := stP SL KY OV hm ky ov) (m := 4096) ⟨(s + 4096 - hm) % 4096, Nat.mod_lt _ (by decide), stP_0 (by rw [e]; exact h0)⟩
  exact this
theorem hm_yes {SL : Nat → Nat} {KY OV : Nat → Int64} {k : Nat} (h : HTm SL KY OV k) (hk : k ≤ 1500) {ky ov : Int64} (q : SL (slT SL KY OV ky ov) ≠ 0) : ∃ m, m < k ∧ KY m = ky ∧ OV m = ov := by
  obtain ⟨h1, h2, h3⟩ := slM_ok h hk ky ov
  have e := stP_e h2 q
  have a := h.1 (slT SL KY OV ky ov) slT_lt
  exact ⟨SL (slT SL KY OV ky ov) - 1, by omega, e.1, e.2⟩
theorem hm_no {SL : Nat → Nat} {KY OV : Nat → Int64} {k : Nat} (h : HTm SL KY OV k) (hk : k ≤ 1500) {ky ov : Int64} (q : SL (slT SL KY OV ky ov) = 0) : ∀ m, m < k → ¬ (KY m = ky ∧ OV m = ov) := fun m hm e => by
  obtain ⟨h1, h2, h3⟩ := slM_ok h hk ky ov
  obtain ⟨d, hd, hs, hc⟩ := h.2.2 m hm
  obtain ⟨rfl, rfl⟩ := e
  have q : SL ((hoM (KY m) (OV m) + slM SL KY OV (KY m) (OV m)) % 4096) = 0 := q
  rcases Nat.lt_trichotomy (slM SL KY OV (KY m) (OV m)) d with z | z | z
  · exact hc _ z q
  · rw [z, hs] at q; cases q
  · have := h3 d z
    rw [stP_t (by rw [hs]; rfl) (by rw [hs]; rfl)] at this
    cases this
theorem hm_put {SL : Nat → Nat} {KY OV : Nat → Int64} {k : Nat} (h : HTm SL KY OV k) (hk : k ≤ 1500) {ky ov : Int64} (q : SL (slT SL KY OV ky ov) = 0) : HTm (va_up SL (slT SL KY OV ky ov) (k + 1)) (vp_updL KY k ky) (vp_updL OV k ov) (k + 1) := by
  obtain ⟨h1, h2, h3⟩ := slM_ok h hk ky ov
  have hsl : slT SL KY OV ky ov = (hoM ky ov + slM SL KY OV ky ov) % 4096 := rfl
  have hlt := slT_lt (SL := SL) (KY := KY) (OV := OV) (ky := ky) (ov := ov)
  generalize hs9 : slT SL KY OV ky ov = s9 at *
  refine ⟨fun s hs => ?_, fun s s' hs hs' hn e => ?_, fun m hm => ?_⟩
  · unfold va_up; split
    · omega
    · have := h.1 s hs; omega
  · unfold va_up at hn e
    have a := h.1 s hs
    have a' := h.1 s' hs'
    by_cases z : s = s9
    · by_cases z' : s' = s9
      · rw [z, z']
      · rw [if_pos z, if_neg z'] at e; omega
    · by_cases z' : s' = s9
      · rw [if_neg z, if_pos z'] at e; omega
      · rw [if_neg z, if_neg z'] at e; rw [if_neg z] at hn; exact h.2.1 s s' hs hs' hn e
  · by_cases z : m = k
    · subst z
      rw [show vp_updL KY m ky m = ky from if_pos rfl, show vp_updL OV m ov m = ov from if_pos rfl]
      refine ⟨_, h1, by rw [← hsl, va_up_self], fun e he => ?_⟩
      have := h3 e he
      unfold va_up
      split
      · omega
      · intro z0; rw [stP_0 z0] at this; cases this
    · rw [show vp_updL KY k ky m = KY m from if_neg z, show vp_updL OV k ov m = OV m from if_neg z]
      obtain ⟨d, hd, hs, hc⟩ := h.2.2 m (by omega)
      refine ⟨d, hd, ?_, fun e he => ?_⟩
      · unfold va_up
        split
        · rename_i z0; rw [z0, q] at hs; cases hs
        · exact hs
      · unfold va_up
        split
        · omega
        · exact hc e he
theorem hm_0 {SL : Nat → Nat} {KY OV : Nat → Int64} (h0 : ∀ s, s < 4096 → SL s = 0) : HTm SL KY OV 0 := ⟨fun s hs => by rw [h0 s hs]; exact Nat.le_refl _, fun s _ hs _ h _ => absurd (h0 s hs) h, fun m hm => absurd hm (Nat.not_lt_zero _)⟩
/-- keys of what the reference met -/
def kyM (n : Nat) (w : WT) : Int64 := lN (pk (trn n (wp w)) n)
theorem pk64 {n : Nat} {P : Nat → Nat} (h0 : 0 < n) (h8 : n ≤ 8) : pk (trn n P) n < 2 ^ 24 := pk_24 h8 (fun i _ => by have := trn_lt (P := P) h0 i; omega)
theorem kyM_iff {a w : WT} (ha : WOK a) (hw : WOK w) (hn : wn a = wn w) : kyW a = kyW w ↔ kyM (wn w) a = kyM (wn w) w := by
  have h4 := hw.1.1
  have h8 := hw.1.2
  have h0 : 0 < wn w := by omega
  have ha2 := ha.2.1
  rw [hn] at ha2
  unfold kyM
  rw [lN_inj (by have := pk64 (P := wp a) h0 h8; omega) (by have := pk64 (P := wp w) h0 h8; omega), trn_pk h0 h8]
  have p1 := rot_perm hw.2.1 h0 (Nat.mod_lt (wn w - wp w 0) h0)
  have p2 := rot_perm ha2 h0 (Nat.mod_lt (wn w - wp a 0) h0)
  unfold kyW
  rw [hn, lN_inj (sea_big64 h8 p2.1) (sea_big64 h8 p1.1)]
  have e := alk_iff hw ha hn
  constructor
  · intro h i hi
    have h1 := sea_inj (fun p hp => by have := p2.1 p hp; omega) (fun p hp => by have := p1.1 p hp; omega) h
    exact (e.mp (fun p hp => (h1 p hp).symm) i hi).symm
  · intro h
    exact sea_congr (fun p hp => (e.mpr (fun i hi => (h i hi).symm) p hp).symm)
def MREL (Q : QS) (n f h : Nat) (MP : Nat → Nat) (MO : Nat → Int64) (MF MB : Nat → Int32) (SL : Nat → Nat) : Prop :=
  qk Q ≤ 1500 ∧ HTm SL (fun m => kyM n (qM Q m)) (fun m => lN (wo (qM Q m))) (qk Q) ∧
  (∀ m, m < qk Q → (WOK (qM Q m) ∧ wn (qM Q m) = n ∧ wf (qM Q m) = f ∧ wh (qM Q m) = h) ∧ (MP m = pk (wp (qM Q m)) n ∧ MO m = lN (wo (qM Q m))) ∧ MF m = (if m = 0 then -4 else nI (qp Q m)) ∧ MB m = (if m = 0 then -4 else nI (qa Q m)) ∧ (m = 0 ∨ qp Q m < m) ∧ qa Q m < 16) ∧ qg Q ≤ qk Q
theorem mmet_iff {Q : QS} {n f h : Nat} {MP : Nat → Nat} {MO : Nat → Int64} {MF MB : Nat → Int32} {SL : Nat → Nat} (R : MREL Q n f h MP MO MF MB SL) {w : WT} (hw : WOK w) (hn : wn w = n) : isMet Q w = true ↔ SL (slT SL (fun m => kyM n (qM Q m)) (fun m => lN (wo (qM Q m))) (kyM n w) (lN (wo w))) ≠ 0 := by
  subst hn
  have hk := R.1
  constructor
  · intro q q0
    have h1 := hm_no R.2.1 hk q0
    obtain ⟨m, hm, he⟩ := fs_lt_iff.mp (of_decide_eq_true q)
    have he := smW_t.mp he
    have hr := (R.2.2.1 m hm).1
    exact h1 m hm ⟨(kyM_iff hr.1 hw hr.2.1).mp he.1, he.2⟩
  · intro q
    obtain ⟨m, hm, e1, e2⟩ := hm_yes R.2.1 hk q
    have hr := (R.2.2.1 m hm).1
    exact decide_eq_true (fs_lt_iff.mpr ⟨m, hm, smW_t.mpr ⟨(kyM_iff hr.1 hw hr.2.1).mpr e1, e2⟩⟩)
theorem mupL {f : Nat → WT} {g : WT → Int64} {k : Nat} {w : WT} : (fun m => g (va_up f k w m)) = vp_updL (fun m => g (f m)) k (g w) := by
  rw [updL_va]
  funext m
  unfold va_up
  split <;> rfl
theorem mput {Q : QS} {n f h : Nat} {MP : Nat → Nat} {MO : Nat → Int64} {MF MB : Nat → Int32} {SL : Nat → Nat} (R : MREL Q n f h MP MO MF MB SL) {w t : WT} {gk : Int64} {p a s9 x : Nat} {pr ar : Int32} (hw : WOK w) (hn : wn w = n) (hf : wf w = f) (hh : wh w = h) (hk : qk Q < 1500) (hs : s9 = slT SL (fun m => kyM n (qM Q m)) (fun m => lN (wo (qM Q m))) (kyM n w) (lN (wo w))) (h0 : SL s9 = 0) (hx : x = pk (wp w) n) (hpr : pr = if qk Q = 0 then -4 else nI p) (har : ar = if qk Q = 0 then -4 else nI a) (hp : qk Q = 0 ∨ p < qk Q) (ha : a < 16) :
    MREL (mt Q w t gk p a) n f h (va_up MP (qk Q) x) (vp_updL MO (qk Q) (lN (wo w))) (upd MF (qk Q) pr) (upd MB (qk Q) ar) (va_up SL s9 (qk Q + 1)) ∧ qk (mt Q w t gk p a) = qk Q + 1 ∧ isMet Q w = false := by
  rw [hs] at h0 ⊢
  have hm : isMet Q w = false := by
    cases q : isMet Q w with
    | false => rfl
    | true => exact absurd h0 ((mmet_iff R hw hn).mp q)
  have hm2 : ¬ isMet Q w = true := by rw [hm]; decide
  rw [mt_yes hm2 hk]
  refine ⟨⟨by show qk Q + 1 ≤ 1500; omega, ?_, fun m hm => ?_, ?_⟩, rfl, hm⟩
  · have q := hm_put R.2.1 R.1 h0
    show HTm _ (fun m => kyM n (va_up (qM Q) (qk Q) w m)) (fun m => lN (wo (va_up (qM Q) (qk Q) w m))) (qk Q + 1)
    rw [mupL (g := kyM n), mupL (g := fun z => lN (wo z))]
    exact q
  · have hm3 : m < qk Q + 1 := hm
    show (WOK (va_up (qM Q) (qk Q) w m) ∧ wn (va_up (qM Q) (qk Q) w m) = n ∧ wf (va_up (qM Q) (qk Q) w m) = f ∧ wh (va_up (qM Q) (qk Q) w m) = h) ∧ (va_up MP (qk Q) x m = pk (wp (va_up (qM Q) (qk Q) w m)) n ∧ vp_updL MO (qk Q) (lN (wo w)) m = lN (wo (va_up (qM Q) (qk Q) w m))) ∧ upd MF (qk Q) pr m = (if m = 0 then -4 else nI (va_up (qp Q) (qk Q) p m)) ∧ upd MB (qk Q) ar m = (if m = 0 then -4 else nI (va_up (qa Q) (qk Q) a m)) ∧ (m = 0 ∨ va_up (qp Q) (qk Q) p m < m) ∧ va_up (qa Q) (qk Q) a m < 16
    rw [updL_va]
    unfold upd
    by_cases e : m = qk Q
    · subst e
      rw [va_up_self, va_up_self, va_up_self, va_up_self, va_up_self, if_pos rfl, if_pos rfl]
      exact ⟨⟨hw, hn, hf, hh⟩, ⟨hx, rfl⟩, hpr, har, hp, ha⟩
    · rw [va_up_ne _ _ e, va_up_ne _ _ e, va_up_ne _ _ e, va_up_ne _ _ e, va_up_ne _ _ e, if_neg e, if_neg e]
      exact R.2.2.1 m (by omega)
  · show (if gB w t gk = true then qk Q + 1 else qg Q) ≤ qk Q + 1
    have := R.2.2.2
    split <;> omega
theorem gB_al {w t : WT} (hw : WOK w) (ht : WOK t) (hn : wn t = wn w) : gB w t (kyW t) = true ↔ ((∀ i, i < wn w → trn (wn w) (wp w) i = trn (wn w) (wp t) i) ∧ wh w = wh t ∧ wo w = wo t) := by
  have h4 := hw.1.1
  have h8 := hw.1.2
  have h0 : 0 < wn w := by omega
  unfold gB
  rw [Bool.and_eq_true, Bool.and_eq_true, decide_eq_true_eq, decide_eq_true_eq, decide_eq_true_eq]
  have e : kyW w = kyW t ↔ ∀ i, i < wn w → trn (wn w) (wp w) i = trn (wn w) (wp t) i := by
    have e1 := kyM_iff ht hw hn
    unfold kyM at e1
    rw [lN_inj (by have := pk64 (P := wp t) h0 h8; omega) (by have := pk64 (P := wp w) h0 h8; omega), trn_pk h0 h8] at e1
    constructor
    · intro q i hi; exact (e1.mp q.symm i hi).symm
    · intro q; exact (e1.mpr (fun i hi => (q i hi).symm)).symm
  rw [e]
  constructor
  · rintro ⟨a, b, c⟩; exact ⟨a, c, b⟩
  · rintro ⟨a, b, c⟩; exact ⟨a, c, b⟩
def gfM (Q : QS) : Int32 := if qg Q = 0 then (if 1500 ≤ qk Q then -6 else -4) else nI (qg Q - 1)
-- the search's steps
theorem QQ_end {t u : WT} {gk : Int64} {m a : Nat} (hm : m < qk (srS t gk u m)) (hg : gOn (srS t gk u m) = true) (ha : a ≤ 2 * wn u) (hx : gOn (aS t gk (srS t gk u m) m a) = false) : srS t gk u (m + 1) = aS t gk (srS t gk u m) m a := by
  rw [srS_yes hm hg]
  obtain ⟨d, hd⟩ : ∃ d, 2 * wn u = a + d := ⟨2 * wn u - a, by omega⟩
  rw [hd]
  exact aS_stop hx d
theorem gOn_f {Q : QS} (h : ¬ qg Q = 0 ∨ ¬ qk Q < 1500) : gOn Q = false := by
  unfold gOn
  rcases h with h | h
  · rw [decide_eq_false h]; rfl
  · rw [decide_eq_false h, Bool.and_false]
theorem gOn_t {Q : QS} : gOn Q = true ↔ qg Q = 0 ∧ qk Q < 1500 := by
  unfold gOn; rw [Bool.and_eq_true, decide_eq_true_eq, decide_eq_true_eq]
theorem srF_mid {t u : WT} {m a : Nat} (hm : m < qk (srS t (kyW t) u m)) (hm2 : m < 1500) (hg : gOn (srS t (kyW t) u m) = true) (ha : a ≤ 2 * wn u) (hx : gOn (aS t (kyW t) (srS t (kyW t) u m) m a) = false) : srF u t = aS t (kyW t) (srS t (kyW t) u m) m a := by
  have e := QQ_end hm hg ha hx
  rw [← e]
  refine srF_e (by omega) (Or.inr (fun q => ?_))
  rw [e] at q
  rw [hx] at q
  exact absurd q.2 (by decide)
theorem mt_qg {Q : QS} {w t : WT} {gk : Int64} {p a : Nat} (h : isMet Q w = false) (hk : qk Q < 1500) : qg (mt Q w t gk p a) = if gB w t gk = true then qk Q + 1 else qg Q := by
  rw [mt_yes (by rw [h]; decide) hk]; rfl
theorem mrel_0 {SL : Nat → Nat} {u : WT} {n f h : Nat} {MP : Nat → Nat} {MO : Nat → Int64} {MF MB : Nat → Int32} (h0 : ∀ s, s < 4096 → SL s = 0) : MREL (Q0 u) n f h MP MO MF MB SL := ⟨Nat.zero_le _, hm_0 h0, fun m hm => absurd hm (Nat.not_lt_zero _), Nat.le_refl _⟩
theorem ansF_g {Q : QS} : (gfM Q < 0 → ansF Q = gfM Q) ∧ (¬ gfM Q < 0 → qg Q ≠ 0 ∧ ansF Q = nI (wlen (qp Q) (qg Q - 1))) ∨ 2 ^ 31 ≤ qg Q := by
  by_cases hb : 2 ^ 31 ≤ qg Q
  · exact Or.inr hb
  · left
    unfold gfM ansF
    by_cases q : qg Q = 0
    · rw [if_pos q, if_pos q]
      refine ⟨fun _ => rfl, fun z => absurd ?_ z⟩
      split <;> decide
    · rw [if_neg q, if_neg q]
      exact ⟨fun z => absurd z (nI_pos (by omega)), fun _ => ⟨q, rfl⟩⟩
theorem dch_e {w : WT} {a : Nat} (hw : WOK w) (ha : a < 2 * wn w) : (chg w (nI (a % 2)) (nI (a / 2))) = chgN w (a % 2) (a / 2) := chg_yes (by omega) (by rw [if_neg (by omega)]; omega) hw


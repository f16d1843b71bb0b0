-- the teller as a machine over the tape
abbrev TS : Type := Nat × PS × Nat × Nat × Nat
def tkS (Fl : Nat → Nat) (FB : Nat → Nat → Nat) (kn : Nat) (T : Nat → Nat) (len : Nat) (s : TS) : TS :=
  if s.2.2.2.2 = 0 then (lxN T len s.1, (tkAny Fl FB kn (lxK T len s.1) (lxV T len s.1) s.2.1).2, (tkAny Fl FB kn (lxK T len s.1) (lxV T len s.1) s.2.1).1, lxP T len s.1, if (tkAny Fl FB kn (lxK T len s.1) (lxV T len s.1) s.2.1).1 = 0 ∧ ¬ lxK T len s.1 = 5 then 0 else 1) else s
def tkR (Fl : Nat → Nat) (FB : Nat → Nat → Nat) (kn : Nat) (T : Nat → Nat) (len : Nat) (p0 : PS) : Nat → TS
  | 0 => (0, p0, 0, 0, 0)
  | i + 1 => tkS Fl FB kn T len (tkR Fl FB kn T len p0 i)
theorem tkR_s {Fl : Nat → Nat} {FB : Nat → Nat → Nat} {kn len i q pl : Nat} {T : Nat → Nat} {p0 p : PS} {R : Nat × PS} (h : tkR Fl FB kn T len p0 i = (q, p, 0, pl, 0)) (hR : tkAny Fl FB kn (lxK T len q) (lxV T len q) p = R) : tkR Fl FB kn T len p0 (i + 1) = (lxN T len q, R.2, R.1, lxP T len q, if R.1 = 0 ∧ ¬ lxK T len q = 5 then 0 else 1) := by
  rw [tkR, h]
  unfold tkS
  rw [if_pos (show (0 : Nat) = 0 from rfl)]
  show (lxN T len q, (tkAny Fl FB kn (lxK T len q) (lxV T len q) p).2, (tkAny Fl FB kn (lxK T len q) (lxV T len q) p).1, lxP T len q, _) = _
  rw [hR]
theorem tkR_f {Fl : Nat → Nat} {FB : Nat → Nat → Nat} {kn len i q f pl : Nat} {T : Nat → Nat} {p0 p : PS} (h : tkR Fl FB kn T len p0 i = (q, p, f, pl, 1)) : ∀ d, tkR Fl FB kn T len p0 (i + d) = (q, p, f, pl, 1)
  | 0 => h
  | d + 1 => by
    show tkR Fl FB kn T len p0 (i + d + 1) = _
    rw [tkR, tkR_f h d]
    unfold tkS
    rw [if_neg (show ¬ (1 : Nat) = 0 by decide)]
theorem tkAny_le {Fl : Nat → Nat} {FB : Nat → Nat → Nat} {kn kd tv : Nat} {p : PS} : (tkAny Fl FB kn kd tv p).1 ≤ 4 := by
  unfold tkAny tkNum tkOpen tkItem
  repeat' split
  all_goals (first | (show _ ≤ 4; omega) | skip)
/-- the reference's loop over the tokens: living, or done -/
def TJ (Fl : Nat → Nat) (FB : Nat → Nat → Nat) (kn : Nat) (T : Nat → Nat) (tp : Nat) (p0 : PS) (i e nm dp : Nat) (NS NN BG RD IT : Nat → Nat) (at2 sp tk : Nat) (vl : Int32) (wr wa : Nat) : Prop :=
  (∃ q p pl, tkR Fl FB kn T tp p0 i = (q, p, 0, pl, 0) ∧ (e = 0 ∧ pWt p = 0) ∧ (i ≤ q ∧ q ≤ tp) ∧ MPR p i nm dp NS NN BG RD IT ∧ LXR T tp q at2 sp tk vl wr wa) ∨
  (∃ q p f pl, tkR Fl FB kn T tp p0 i = (q, p, f, pl, 1) ∧ i ≤ 161 ∧ (wr = f ∧ f ≤ 5) ∧ (¬ f = 0 → wa = pl) ∧ (¬ f = 0 ∨ ¬ e = 0) ∧ (f = 0 → NRt (pLen p) (pB p) (pOv p) nm NS NN))
/-- the loop's end -/
def TX (R : TS) (nm : Nat) (NS NN : Nat → Nat) (wr wa : Nat) : Prop := (wr = R.2.2.1 ∧ wr ≤ 5) ∧ (¬ wr = 0 → wa = R.2.2.2.1) ∧ (wr = 0 → NRt (pLen R.2.1) (pB R.2.1) (pOv R.2.1) nm NS NN)
theorem TJ_w {Fl : Nat → Nat} {FB : Nat → Nat → Nat} {kn tp i e nm dp at2 sp tk wr wa : Nat} {T NS NN BG RD IT : Nat → Nat} {vl : Int32} {p0 : PS} (h : TJ Fl FB kn T tp p0 i e nm dp NS NN BG RD IT at2 sp tk vl wr wa) (ht : tp ≤ 160) : wr ≤ 5 ∧ i ≤ 161 ∧ (¬ wr = 0 ∨ ¬ e = 0 ∨ i ≤ 160) := by
  rcases h with ⟨q, p, pl, h1, h2, h3, h4, h5⟩ | ⟨q, p, f, pl, h1, h2, h3, h4, h5, h6⟩
  · have := (LXR_w h5).1; omega
  · refine ⟨by omega, h2, ?_⟩
    rcases h5 with z | z
    · left; omega
    · exact Or.inr (Or.inl z)
theorem TJ_x {Fl : Nat → Nat} {FB : Nat → Nat → Nat} {kn tp i e nm dp at2 sp tk wr wa : Nat} {T NS NN BG RD IT : Nat → Nat} {vl : Int32} {p0 : PS} {R : TS} (h : TJ Fl FB kn T tp p0 i e nm dp NS NN BG RD IT at2 sp tk vl wr wa) (ht : tp ≤ 160) (hR : tkR Fl FB kn T tp p0 161 = R) (hx : ¬ wr = 0 ∨ ¬ e = 0) : TX R nm NS NN wr wa := by
  rcases h with ⟨q, p, pl, h1, h2, h3, h4, h5⟩ | ⟨q, p, f, pl, h1, h2, h3, h4, h5, h6⟩
  · have hw := LXR_w h5
    have hn : ¬ wr = 0 := by rcases hx with z | z; exact z; exact absurd h2.1 z
    have hk : lxK T tp q = 6 := Decidable.byContradiction (fun z => hn (hw.2.2.1.mpr z))
    have e6 : tkAny Fl FB kn (lxK T tp q) (lxV T tp q) p = (1, p) := by rw [hk]; unfold tkAny; rw [if_pos rfl]
    have q1 := tkR_s h1 e6
    rw [if_neg (show ¬ ((1, p).1 = 0 ∧ ¬ lxK T tp q = 5) from fun z => absurd (show (1 : Nat) = 0 from z.1) (by decide))] at q1
    have q2 := tkR_f q1 (160 - i)
    rw [show i + 1 + (160 - i) = 161 by omega, hR] at q2
    rw [q2]
    have h6 := hw.2.2.2.2.1 hn
    exact ⟨⟨h6.1, by omega⟩, fun _ => h6.2, fun z => absurd z hn⟩
  · have q2 := tkR_f h1 (161 - i)
    rw [show i + (161 - i) = 161 by omega, hR] at q2
    rw [q2]
    exact ⟨⟨h3.1, by omega⟩, fun z => h4 (by rw [← h3.1]; exact z), fun z => h6 (by rw [← h3.1]; exact z)⟩
theorem tkR_l {Fl : Nat → Nat} {FB : Nat → Nat → Nat} {kn len i q pl : Nat} {T : Nat → Nat} {p0 p p1 : PS} (h : tkR Fl FB kn T len p0 i = (q, p, 0, pl, 0)) (hk : ¬ lxK T len q = 5) (hR : tkAny Fl FB kn (lxK T len q) (lxV T len q) p = (0, p1)) : tkR Fl FB kn T len p0 (i + 1) = (lxN T len q, p1, 0, lxP T len q, 0) := by
  have q1 := tkR_s h hR
  rw [if_pos ⟨rfl, hk⟩] at q1
  exact q1
theorem tkR_d {Fl : Nat → Nat} {FB : Nat → Nat → Nat} {kn len i q pl : Nat} {T : Nat → Nat} {p0 p : PS} {R : Nat × PS} (h : tkR Fl FB kn T len p0 i = (q, p, 0, pl, 0)) (hR : tkAny Fl FB kn (lxK T len q) (lxV T len q) p = R) (hf : ¬ R.1 = 0 ∨ lxK T len q = 5) : tkR Fl FB kn T len p0 (i + 1) = (lxN T len q, R.2, R.1, lxP T len q, 1) := by
  have q1 := tkR_s h hR
  rw [if_neg (fun z => by rcases hf with y | y; exact y z.1; exact z.2 y)] at q1
  exact q1
/-- the token is a fault -/
theorem TJ_1d {Fl : Nat → Nat} {FB : Nat → Nat → Nat} {kn tp i e q pl nm dp at2 sp tk wr wa : Nat} {T NS NN BG RD IT : Nat → Nat} {vl : Int32} {p0 p : PS} {R : Nat × PS} (h : tkR Fl FB kn T tp p0 i = (q, p, 0, pl, 0)) (hi : i ≤ 160) (hR : tkAny Fl FB kn (lxK T tp q) (lxV T tp q) p = R) (hf : ¬ R.1 = 0) (hw : wr = R.1) (ha : wa = lxP T tp q) : TJ Fl FB kn T tp p0 (i + 1) e nm dp NS NN BG RD IT at2 sp tk vl wr wa :=
  Or.inr ⟨_, _, _, _, tkR_d h hR (Or.inl hf), by omega, ⟨hw, by have := tkAny_le (Fl := Fl) (FB := FB) (kn := kn) (kd := lxK T tp q) (tv := lxV T tp q) (p := p); rw [hR] at this; omega⟩, fun _ => ha, Or.inl hf, fun z => absurd z hf⟩
/-- the text ends well -/
theorem TJ_1e {Fl : Nat → Nat} {FB : Nat → Nat → Nat} {kn tp i q pl nm dp at2 sp tk wr wa : Nat} {T NS NN BG RD IT : Nat → Nat} {vl : Int32} {p0 p : PS} (h : tkR Fl FB kn T tp p0 i = (q, p, 0, pl, 0)) (hi : i ≤ 160) (hk : lxK T tp q = 5) (hR : tkAny Fl FB kn (lxK T tp q) (lxV T tp q) p = (0, p)) (hw : wr = 0) (hn : NRt (pLen p) (pB p) (pOv p) nm NS NN) : TJ Fl FB kn T tp p0 (i + 1) 1 nm dp NS NN BG RD IT at2 sp tk vl wr wa :=
  Or.inr ⟨_, _, _, _, tkR_d h hR (Or.inr hk), by omega, ⟨hw, by show 0 ≤ 5; omega⟩, fun z => absurd rfl z, Or.inr (by decide), fun _ => hn⟩
/-- the token is well -/
theorem TJ_1l {Fl : Nat → Nat} {FB : Nat → Nat → Nat} {kn tp i q pl nm dp at2 sp tk wr wa : Nat} {T NS NN BG RD IT : Nat → Nat} {vl : Int32} {p0 p p1 : PS} (h : tkR Fl FB kn T tp p0 i = (q, p, 0, pl, 0)) (hi : i ≤ q ∧ q ≤ tp) (hk : ¬ lxK T tp q = 5) (hR : tkAny Fl FB kn (lxK T tp q) (lxV T tp q) p = (0, p1)) (hp : pWt p1 = 0) (hM : MPR p1 (i + 1) nm dp NS NN BG RD IT) (hL : LXR T tp (lxN T tp q) at2 sp tk vl wr wa) : TJ Fl FB kn T tp p0 (i + 1) 0 nm dp NS NN BG RD IT at2 sp tk vl wr wa :=
  Or.inl ⟨_, _, _, tkR_l h hk hR, ⟨rfl, hp⟩, by have := lxN_bd (T := T) hi.2; have := this.2.2 hk; omega, hM, hL⟩
/-- two tokens -/
theorem TJ_2 {Fl : Nat → Nat} {FB : Nat → Nat → Nat} {kn tp i q pl nm dp at2 sp tk wr wa : Nat} {T NS NN BG RD IT : Nat → Nat} {vl : Int32} {p0 p p1 : PS} {R : Nat × PS} (h : tkR Fl FB kn T tp p0 i = (q, p, 0, pl, 0)) (hi : i ≤ q ∧ q ≤ tp) (ht : tp ≤ 160) (hk : ¬ lxK T tp q = 5) (hR : tkAny Fl FB kn (lxK T tp q) (lxV T tp q) p = (0, p1)) (hR2 : tkAny Fl FB kn (lxK T tp (lxN T tp q)) (lxV T tp (lxN T tp q)) p1 = R) (h0 : R.1 = 0 → ¬ lxK T tp (lxN T tp q) = 5 ∧ pWt R.2 = 0) (hX : MXR R T tp (lxN T tp q) (i + 2) nm dp NS NN BG RD IT at2 sp tk vl wr wa) : TJ Fl FB kn T tp p0 (i + 2) 0 nm dp NS NN BG RD IT at2 sp tk vl wr wa := by
  have q1 := tkR_l h hk hR
  have hb := lxN_bd (T := T) hi.2
  have hb3 := hb.2.2 hk
  rcases hX with ⟨x1, x2, x3⟩ | ⟨x1, x2, x3⟩
  · exact TJ_1d (i := i + 1) q1 (by omega) hR2 x1 x2 x3
  · have y := h0 x1
    exact TJ_1l (i := i + 1) (p1 := R.2) q1 (by omega) y.1 (by rw [hR2]; exact Prod.ext x1 rfl) y.2 x2 x3
theorem tkAny_0 {Fl : Nat → Nat} {FB : Nat → Nat → Nat} {kn k v : Nat} {p : PS} (hp : pWt p = 0) (hk : ¬ k = 6) : tkAny Fl FB kn k v p = tkItem k v p := by
  unfold tkAny; rw [if_neg hk, if_neg (by omega), if_neg (by omega)]
theorem num_z {Fl : Nat → Nat} {FB : Nat → Nat → Nat} {kn k v tv : Nat} {p : PS} (h : (tkAny Fl FB kn k v (ltP tv p)).1 = 0) : ¬ k = 5 ∧ pWt (tkAny Fl FB kn k v (ltP tv p)).2 = 0 := by
  by_cases h6 : k = 6
  · subst h6; rw [num_6] at h; exact absurd h (by decide)
  · by_cases h1 : k = 1
    · subst h1
      by_cases hv : v < (if tv = 6 then kn else 8)
      · rw [num_y hv]
        refine ⟨by decide, ?_⟩
        show pWt (if tv = 6 then _ else _ : PS) = 0
        split <;> rfl
      · rw [num_o hv] at h; exact absurd h (by decide)
    · rw [num_n h6 h1] at h; exact absurd h (by decide)
theorem opn_z {Fl : Nat → Nat} {FB : Nat → Nat → Nat} {kn k v tv : Nat} {p : PS} (h : (tkAny Fl FB kn k v (nuP tv p)).1 = 0) : ¬ k = 5 ∧ pWt (tkAny Fl FB kn k v (nuP tv p)).2 = 0 := by
  by_cases h6 : k = 6
  · subst h6; rw [num_6] at h; exact absurd h (by decide)
  · by_cases h1 : k = 2
    · subst h1
      by_cases hv : pOp p < 4
      · rw [opn_y hv]
        exact ⟨by decide, rfl⟩
      · rw [opn_o hv] at h; exact absurd h (by decide)
    · rw [opn_n h6 h1] at h; exact absurd h (by decide)
theorem shu_z {p : PS} {tv : Nat} (hp : pWt p = 0) (hk : POK p) : pWt (tkItem 3 tv p).2 = 0 := by
  have e : tkItem 3 tv p = if pEm p ≠ 0 ∨ pOp p = 0 then (2, p) else (0, clP p) := rfl
  rw [e]
  split
  · exact hp
  · exact ((clI_ok (fr := pSt p (pOp p - 1)) (to := pLen p) (opD_ok hk) (pTm p (pOp p - 1) - 1)).2.1.2.2.2.1).trans hp
theorem LXR_i {T : Nat → Nat} {len q at2 sp tk wa : Nat} {vl : Int32} (h : LXR T len q at2 sp tk vl 0 wa) : ¬ lxK T len q = 6 ∧ (tk = 0 → lxK T len q = 5) ∧ (tk = 1 → lxK T len q = 0) ∧ (tk = 2 → lxK T len q = 1) ∧ (tk = 3 → lxK T len q = 2) ∧ (tk = 4 → lxK T len q = 3) ∧ (tk = 5 → lxK T len q = 4) := by
  have h6 := (LXR_w h).2.2.1.mp rfl
  obtain ⟨_, _, h5, h0, h1, h2, h3, h4, _⟩ := h
  have hk := lxK_lt T len q
  refine ⟨h6, ?_⟩
  rcases (show lxK T len q = 0 ∨ lxK T len q = 1 ∨ lxK T len q = 2 ∨ lxK T len q = 3 ∨ lxK T len q = 4 ∨ lxK T len q = 5 by omega) with e | e | e | e | e | e
  · have := (h0 e).1; omega
  · have := (h1 e).1; omega
  · have := h2 e; omega
  · have := h3 e; omega
  · have := h4 e; omega
  · have := h5 e; omega
theorem rst_e {p : PS} {tv : Nat} : tkItem 4 tv p = (0, wrP 48 p) := rfl
theorem end_e {p : PS} {tv : Nat} : tkItem 5 tv p = (if pEm p ≠ 0 ∨ pOp p ≠ 0 then 2 else 0, p) := rfl
theorem opx_e {p : PS} {tv : Nat} : tkItem 2 tv p = (2, p) := rfl
-- a figure more
def FC (fi : Nat) (BY BS BN : Nat → Nat) (Fl : Nat → Nat) (FB : Nat → Nat → Nat) (NS NN : Nat → Nat) (c : Nat) : Prop := FR fi BY BS BN Fl FB ∧ ∀ i, i < c → BS (200 * fi + i) = NS i ∧ BN (200 * fi + i) = NN i
theorem FC_0 {fi n : Nat} {BY BS BN Fl NS NN : Nat → Nat} {FB : Nat → Nat → Nat} (h : FR fi BY BS BN Fl FB) : FC fi (va_up BY fi n) BS BN Fl FB NS NN 0 :=
  ⟨fun f hf => ⟨by rw [va_up_ne _ _ (by omega)]; exact (h f hf).1, (h f hf).2⟩, fun i hi => by omega⟩
theorem FC_s {fi c : Nat} {BY BS BN Fl NS NN : Nat → Nat} {FB : Nat → Nat → Nat} (h : FC fi BY BS BN Fl FB NS NN c) : FC fi BY (va_up BS (200 * fi + c) (NS c)) (va_up BN (200 * fi + c) (NN c)) Fl FB NS NN (c + 1) := by
  refine ⟨fun f hf => ⟨(h.1 f hf).1, (h.1 f hf).2.1, fun i hi => ?_⟩, fun i hi => ?_⟩
  · have h2 := (h.1 f hf).2.1
    rw [va_up_ne _ _ (by omega), va_up_ne _ _ (by omega)]
    exact (h.1 f hf).2.2 i hi
  · by_cases e : i = c
    · subst e; rw [va_up_self, va_up_self]; exact ⟨rfl, rfl⟩
    · rw [va_up_ne _ _ (by omega), va_up_ne _ _ (by omega)]; exact h.2 i (by omega)
theorem FC_e {fi n len ov : Nat} {BY BS BN Fl NS NN B B2 : Nat → Nat} {FB : Nat → Nat → Nat} (h : FC fi (va_up BY fi n) BS BN Fl FB NS NN n) (hn : NRt len B ov n NS NN) (ho : ov = 0) : FR (fi + 1) (va_up BY fi n) BS BN (va_up Fl fi len) (va_up FB fi (cpB B B2)) := by
  obtain ⟨h1, h2, h3, h4, h5⟩ := hn
  rw [if_pos ho] at h4
  subst h4
  intro f hf
  by_cases e : f = fi
  · subst e
    rw [va_up_self, va_up_self, va_up_self]
    refine ⟨rfl, h1, fun i hi => ?_⟩
    have a := h.2 i hi
    have b := h5 i hi
    rw [show cpB B B2 i = B i from if_pos (by omega), a.1, a.2]
    exact b
  · rw [va_up_ne _ _ e, va_up_ne _ _ e, va_up_ne _ _ e]
    have q := h.1 f (by omega)
    rw [va_up_ne _ _ e] at q
    exact q
/-- the fault, and its place -/
def tkF (R : TS) : Nat := if R.2.2.1 = 0 ∧ ¬ pOv R.2.1 = 0 then 5 else R.2.2.1
def tkP (R : TS) : Nat := if R.2.2.1 = 0 ∧ ¬ pOv R.2.1 = 0 then 0 else R.2.2.2.1
theorem TX_1 {R : TS} {nm wr wa : Nat} {NS NN : Nat → Nat} (h : TX R nm NS NN wr wa) (hn : ¬ wr = 0) : wr = tkF R ∧ wa = tkP R := by
  unfold tkF tkP
  rw [if_neg (fun z => hn (h.1.1.trans z.1)), if_neg (fun z => hn (h.1.1.trans z.1))]
  exact ⟨h.1.1, h.2.1 hn⟩
theorem TX_2 {R : TS} {nm wr wa : Nat} {NS NN : Nat → Nat} (h : TX R nm NS NN wr wa) (hn : wr = 0) (h2 : 200 < nm) : 5 = tkF R ∧ 0 = tkP R := by
  have q := h.2.2 hn
  have z : ¬ pOv R.2.1 = 0 := fun z => by have q1 := q.1; have q4 := q.2.2.2.1; rw [if_pos z] at q4; omega
  unfold tkF tkP
  rw [if_pos ⟨h.1.1.symm.trans hn, z⟩, if_pos ⟨h.1.1.symm.trans hn, z⟩]
  exact ⟨rfl, rfl⟩
theorem TX_3 {R : TS} {nm wr wa : Nat} {NS NN : Nat → Nat} (h : TX R nm NS NN wr wa) (hn : wr = 0) (h2 : ¬ 200 < nm) : wr = tkF R ∧ pOv R.2.1 = 0 ∧ nm = pLen R.2.1 ∧ nm ≤ 200 := by
  have q := h.2.2 hn
  have z : pOv R.2.1 = 0 := Decidable.byContradiction (fun z => by have q4 := q.2.2.2.1; rw [if_neg z] at q4; omega)
  unfold tkF
  rw [if_neg (fun y => y.2 z)]
  have q4 := q.2.2.2.1
  rw [if_pos z] at q4
  exact ⟨h.1.1, z, q4, by omega⟩


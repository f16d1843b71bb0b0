-- one object of the class, by what its calls show
def OB9 (cy : Nat → ClassId) (bo : Nat) (g : Nat → va_E) (w : WT) (fc : Nat) (lt : Int32) (vc len : Nat) (T Fl : Nat → Nat) (FB : Nat → Nat → Nat) (Vl : Nat → Nat) (VV : Nat → Nat → Nat) : Prop := ∃ (Pw : Nat → WT) (nx0 un : Nat) (rf : Int32) (qc : Nat) (lf : Int32) (Po : Nat → WT) (Sh : Nat → Int32 × Nat) (SK : Nat → Nat → Int32) (ps : PS), GP w Pw nx0 un rf qc fc lf lt vc len T Fl FB Po Vl VV Sh SK ps ∧ CIv (bd bo) cy g w Pw nx0 un rf qc fc lf lt vc len T Fl FB Po Vl VV Sh SK ps
section OBJ
variable {cy : Nat → ClassId} {bo : Nat} {g g1 : Nat → va_E} {w : WT} {fc : Nat} {lt : Int32} {vc len : Nat} {T Fl : Nat → Nat} {FB : Nat → Nat → Nat} {Vl : Nat → Nat} {VV : Nat → Nat → Nat}
theorem OB9.fr (h : OB9 cy bo g w fc lt vc len T Fl FB Vl VV) (e : ∀ j, j < 114 → g1 j = g j) : OB9 cy bo g1 w fc lt vc len T Fl FB Vl VV := by
  obtain ⟨Pw, nx0, un, rf, qc, lf, Po, Sh, SK, ps, h1, h2⟩ := h
  exact ⟨Pw, nx0, un, rf, qc, lf, Po, Sh, SK, ps, h1, CIv_fr h2 (fun j _ hj => e j hj)⟩
theorem OB9.ob (h : OB9 cy bo g w fc lt vc len T Fl FB Vl VV) : ∃ fs, g 0 = .inr (9, fs) := by
  obtain ⟨Pw, nx0, un, rf, qc, lf, Po, Sh, SK, ps, h1, h2⟩ := h
  exact ⟨_, h2.1⟩
theorem OB9.bd (h : OB9 cy bo g w fc lt vc len T Fl FB Vl VV) : WOK w ∧ fc ≤ 8 ∧ vc ≤ 4 ∧ len ≤ 160 ∧ (∀ j, Fl j ≤ 200) ∧ (∀ j, Vl j ≤ 16) ∧ ∀ j i, VV j i < 8 := by
  obtain ⟨Pw, nx0, un, rf, qc, lf, Po, Sh, SK, ps, h1, h2⟩ := h
  obtain ⟨gF, gq, gf, gv, gl, gT, gFl, gFB, gPo, gPn, gVl, gVV, gSz, gS⟩ := h1
  exact ⟨gF.1, gf, gv, gl, gFl, gVl, gVV⟩
theorem ob_new {h : Nat → va_E} (hq : IX9 bo cy h g) : OB9 cy bo g (bgW 5) 0 (nI 0) 0 0 (fun _ => 0) (fun _ => 0) (fun _ _ => 0) (fun _ => 0) (fun _ _ => 0) := ⟨_, _, _, _, _, _, _, _, _, _, init_g, init_c hq⟩
variable (l : Launch) (D : va_G)
theorem ob_ring (h : OB9 cy bo g w fc lt vc len T Fl FB Vl VV) {n : Nat} (h4 : 4 ≤ n) (h8 : n ≤ 8) : Met l yX9_ring (WS yX9_ring cX9_ring 2 (some .int)) (rmF 2 41) (PP [.ref (bd bo 0), .int (nI n)] D cy (bd bo) 114 g) (QI (fun r g1 => r = nI 1 ∧ OB9 cy bo g1 (bgW n) fc lt vc len T Fl FB Vl VV) D (bd bo) 114) 0 0 (AA (bd bo) 114) := by
  obtain ⟨Pw, nx0, un, rf, qc, lf, Po, Sh, SK, ps, h1, h2⟩ := h
  have hr : rgI (nI n) := ⟨nI_nlt h4 (by omega), nI_nlt h8 (by omega)⟩
  have hn : (nI n).toNatClampNeg = n := nI_clamp (by omega)
  have q2 := gp_ring h1 (nI n)
  refine Met.QI (kc_ring l D cy bo g w Pw nx0 un rf qc fc lf lt vc len T Fl FB Po Vl VV Sh SK ps h1 h2 (nI n)) (fun r g1 q => ?_)
  obtain ⟨e, c, -⟩ := q
  simp only [if_pos hr, hn] at e c q2
  exact ⟨e, _, _, _, _, _, _, _, _, _, _, q2, c⟩
theorem ob_village (h : OB9 cy bo g w fc lt vc len T Fl FB Vl VV) (hv : vc < 4) : Met l yX9_village (WS yX9_village cX9_village 1 (some .int)) (rmF 0 0) (PP [.ref (bd bo 0)] D cy (bd bo) 114 g) (QI (fun r g1 => r = nI vc ∧ OB9 cy bo g1 w fc lt (vc + 1) len T Fl FB Vl VV) D (bd bo) 114) 0 0 (AA (bd bo) 114) := by
  obtain ⟨Pw, nx0, un, rf, qc, lf, Po, Sh, SK, ps, h1, h2⟩ := h
  have q2 := gp_village h1
  refine Met.QI (kc_village l D cy bo g w Pw nx0 un rf qc fc lf lt vc len T Fl FB Po Vl VV Sh SK ps h1 h2) (fun r g1 q => ?_)
  obtain ⟨e, c, -⟩ := q
  simp only [if_pos hv] at e c q2
  exact ⟨e, _, _, _, _, _, _, _, _, _, _, q2, c⟩
theorem ob_feed (h : OB9 cy bo g w fc lt vc len T Fl FB Vl VV) (hl : len + 8 ≤ 160) {vv : Nat} (hvv : vv < 2 ^ 64) : Met l yX9_feed (WS yX9_feed cX9_feed 3 (some .int)) (rmF 1 23) (PP [.ref (bd bo 0), .long (lN vv)] D cy (bd bo) 114 g) (QI (fun r g1 => r = nI (len + 8) ∧ OB9 cy bo g1 w fc lt vc (len + 8) (feT T len vv 8) Fl FB Vl VV) D (bd bo) 114) 0 0 (AA (bd bo) 114) := by
  obtain ⟨Pw, nx0, un, rf, qc, lf, Po, Sh, SK, ps, h1, h2⟩ := h
  have q2 := gp_feed h1 vv
  refine Met.QI (kc_feed l D cy bo g w Pw nx0 un rf qc fc lf lt vc len T Fl FB Po Vl VV Sh SK ps h1 h2 vv hvv) (fun r g1 q => ?_)
  obtain ⟨e, c, -⟩ := q
  simp only [if_pos hl] at e c q2
  exact ⟨e, _, _, _, _, _, _, _, _, _, _, q2, c⟩
theorem ob_end (h : OB9 cy bo g w fc lt vc len T Fl FB Vl VV) {x : Nat} (hx : x ≤ len) : Met l yX9_end (WS yX9_end cX9_end 3 (some .int)) (rmF 0 0) (PP [.ref (bd bo 0), .int (nI x)] D cy (bd bo) 114 g) (QI (fun r g1 => r = nI len ∧ OB9 cy bo g1 w fc lt vc x T Fl FB Vl VV) D (bd bo) 114) 0 0 (AA (bd bo) 114) := by
  have hb := h.bd.2.2.2.1
  obtain ⟨Pw, nx0, un, rf, qc, lf, Po, Sh, SK, ps, h1, h2⟩ := h
  have hi : isI (nI x) (len + 1) := ⟨nI_pos (by omega), nI_lt (by omega) (by omega)⟩
  have hn : (nI x).toNatClampNeg = x := nI_clamp (by omega)
  have q2 := gp_end h1 (nI x)
  refine Met.QI (kc_end l D cy bo g w Pw nx0 un rf qc fc lf lt vc len T Fl FB Po Vl VV Sh SK ps h1 h2 (nI x)) (fun r g1 q => ?_)
  obtain ⟨e, c, -⟩ := q
  simp only [if_pos hi, hn] at e c q2
  exact ⟨e, _, _, _, _, _, _, _, _, _, _, q2, c⟩
theorem ob_figure (h : OB9 cy bo g w fc lt vc len T Fl FB Vl VV) (sq sv : Nat) (hf : fc < 8) {T0 R : Nat → Nat} {many f m : Nat} (hT : TXP T0 len many R 0 0 f m) (hTT : ∀ j, j < len → T j = T0 j) (hm : many ≤ 200) : Met l yX9_figure (WS yX9_figure cX9_figure 1 (some .int)) (rmF 6 136) (PPX [.ref (bd bo 0)] D cy (bd bo) 114 g sq sv) (QI (fun r g1 => r = nI fc ∧ ∃ B1 : Nat → Nat, (∀ i, i < many → B1 i = R i) ∧ OB9 cy bo g1 w (fc + 1) lt vc 0 T (va_up Fl fc many) (va_up FB fc B1) Vl VV) D (bd bo) 114) 0 0 (AA (bd bo) 114) := by
  have hb := h.bd.2.2.2.1
  obtain ⟨Pw, nx0, un, rf, qc, lf, Po, Sh, SK, ps, h1, h2⟩ := h
  obtain ⟨t1, t2, t3⟩ := TXP_end (Fl := Fl) (FB := FB) (kn := fc) (T2 := T) hT hb (ps0_be ps) hTT
  have q2 := fun ps2 (h : POK ps2) => gp_figure h1 ps2 h
  refine Met.QI (kc_figure l D cy bo g w Pw nx0 un rf qc fc lf lt vc len T Fl FB Po Vl VV Sh SK ps sq sv h1 h2) (fun r g1 q => ?_)
  obtain ⟨ps2, s1, e, c, -⟩ := q
  have q2 := q2 ps2 s1
  rw [if_pos hf, if_pos t1] at e
  rw [if_pos ⟨hf, t1⟩, if_pos hf, if_pos hf, if_pos ⟨hf, t1⟩, if_pos ⟨hf, t1⟩, t2] at c q2
  refine ⟨e, _, fun i hi => ?_, _, _, _, _, _, _, _, _, _, _, q2, c⟩
  show cpB _ _ i = R i
  unfold cpB
  rw [if_pos (by omega)]
  exact t3 i hi
theorem ob_dance (h : OB9 cy bo g w fc lt vc len T Fl FB Vl VV) {f : Nat} (hf : f < fc) : Met l yX9_dance (WS yX9_dance cX9_dance 2 (some .int)) (rmF 7 163) (PP [.ref (bd bo 0), .int (nI f)] D cy (bd bo) 114 g) (QI (fun r g1 => r = dnF (dnW (FB f) (Fl f) w) ∧ OB9 cy bo g1 (dnW (FB f) (Fl f) w).2.2.1 fc (dnW (FB f) (Fl f) w).2.1 vc len T Fl FB Vl VV) D (bd bo) 114) 0 0 (AA (bd bo) 114) := by
  have hb := h.bd.2.1
  obtain ⟨Pw, nx0, un, rf, qc, lf, Po, Sh, SK, ps, h1, h2⟩ := h
  have hi : isI (nI f) fc := ⟨nI_pos (by omega), nI_lt hf (by omega)⟩
  have hn : (nI f).toNatClampNeg = f := nI_clamp (by omega)
  have q2 := gp_dance h1 (nI f)
  refine Met.QI (kc_dance l D cy bo g w Pw nx0 un rf qc fc lf lt vc len T Fl FB Po Vl VV Sh SK ps h1 h2 (nI f)) (fun r g1 q => ?_)
  obtain ⟨e, c, -⟩ := q
  simp only [if_pos hi, hn] at e c q2
  have hp := dnW_p (B := FB f) (len := Fl f) (F := (w, Pw, nx0, un))
  have e3 : (rn (FB f) (Fl f) 0 (w, Pw, nx0, un) (Fl f)).2.2.1 = (dnW (FB f) (Fl f) w).2.2.1 := hp.2.2
  have e2 : (rn (FB f) (Fl f) 0 (w, Pw, nx0, un) (Fl f)).2.1 = (dnW (FB f) (Fl f) w).2.1 := hp.2.1
  have e1 : dnF (rn (FB f) (Fl f) 0 (w, Pw, nx0, un) (Fl f)) = dnF (dnW (FB f) (Fl f) w) := rnQ_dn hp
  rw [e3, e2] at c q2
  rw [e1] at e
  exact ⟨e, _, _, _, _, _, _, _, _, _, _, q2, c⟩
noncomputable def bkW (B : Nat → Nat) (len : Nat) (w : WT) : Nat × Int32 × FS := rn B len 1 (F0s w) len
theorem ob_back (h : OB9 cy bo g w fc lt vc len T Fl FB Vl VV) {f : Nat} (hf : f < fc) : Met l yX9_back (WS yX9_back cX9_back 2 (some .int)) (rmF 7 163) (PP [.ref (bd bo 0), .int (nI f)] D cy (bd bo) 114 g) (QI (fun r g1 => r = dnF (bkW (FB f) (Fl f) w) ∧ OB9 cy bo g1 (bkW (FB f) (Fl f) w).2.2.1 fc (bkW (FB f) (Fl f) w).2.1 vc len T Fl FB Vl VV) D (bd bo) 114) 0 0 (AA (bd bo) 114) := by
  have hb := h.bd.2.1
  obtain ⟨Pw, nx0, un, rf, qc, lf, Po, Sh, SK, ps, h1, h2⟩ := h
  have hi : isI (nI f) fc := ⟨nI_pos (by omega), nI_lt hf (by omega)⟩
  have hn : (nI f).toNatClampNeg = f := nI_clamp (by omega)
  have q2 := gp_back h1 (nI f)
  refine Met.QI (kc_back l D cy bo g w Pw nx0 un rf qc fc lf lt vc len T Fl FB Po Vl VV Sh SK ps h1 h2 (nI f)) (fun r g1 q => ?_)
  obtain ⟨e, c, -⟩ := q
  simp only [if_pos hi, hn] at e c q2
  have hp : rnQ (rn (FB f) (Fl f) 1 (w, Pw, nx0, un) (Fl f)) (bkW (FB f) (Fl f) w) := rn_pool (F := (w, Pw, nx0, un)) (G := F0s w) rfl (Fl f)
  have e3 : (rn (FB f) (Fl f) 1 (w, Pw, nx0, un) (Fl f)).2.2.1 = (bkW (FB f) (Fl f) w).2.2.1 := hp.2.2
  have e2 : (rn (FB f) (Fl f) 1 (w, Pw, nx0, un) (Fl f)).2.1 = (bkW (FB f) (Fl f) w).2.1 := hp.2.1
  have e1 : dnF (rn (FB f) (Fl f) 1 (w, Pw, nx0, un) (Fl f)) = dnF (bkW (FB f) (Fl f) w) := rnQ_dn hp
  rw [e3, e2] at c q2
  rw [e1] at e
  exact ⟨e, _, _, _, _, _, _, _, _, _, _, q2, c⟩
theorem ob_add (h : OB9 cy bo g w fc lt vc len T Fl FB Vl VV) {v f : Nat} (hv : v < vc) (hf : f < fc) (hl : Vl v < 16) : Met l yX9_add (WS yX9_add cX9_add 3 (some .int)) (rmF 1 21) (PP [.ref (bd bo 0), .int (nI v), .int (nI f)] D cy (bd bo) 114 g) (QI (fun r g1 => r = nI (Vl v + 1) ∧ OB9 cy bo g1 w fc lt vc len T Fl FB (va_up Vl v (Vl v + 1)) (va_up VV v (va_up (VV v) (Vl v) f))) D (bd bo) 114) 0 0 (AA (bd bo) 114) := by
  have hb := h.bd
  obtain ⟨Pw, nx0, un, rf, qc, lf, Po, Sh, SK, ps, h1, h2⟩ := h
  have hi : isI (nI v) vc ∧ isI (nI f) fc := ⟨⟨nI_pos (by omega), nI_lt hv (by omega)⟩, ⟨nI_pos (by omega), nI_lt hf (by omega)⟩⟩
  have hn : (nI f).toNatClampNeg = f := nI_clamp (by omega)
  have hn2 : (nI v).toNatClampNeg = v := nI_clamp (by omega)
  have q2 := gp_add h1 (nI v) (nI f)
  refine Met.QI (kc_add l D cy bo g w Pw nx0 un rf qc fc lf lt vc len T Fl FB Po Vl VV Sh SK ps h1 h2 (nI v) (nI f)) (fun r g1 q => ?_)
  obtain ⟨e, c, -⟩ := q
  rw [if_pos hi, hn2, if_pos hl] at e
  have a1 : apVL (Vl v) = Vl v + 1 := if_pos hl
  have a2 : apV (VV v) (Vl v) f = va_up (VV v) (Vl v) f := if_pos hl
  rw [if_pos hi, if_pos hi, hn, hn2, a1, a2] at c q2
  exact ⟨e, _, _, _, _, _, _, _, _, _, _, q2, c⟩
/-- what shared answers -/
def shA (vc : Nat) (Vl : Nat → Nat) (VV : Nat → Nat → Nat) (x y z : Int32) : Int32 := if (isI x vc ∧ isI y vc ∧ (¬ z < 0 ∨ z = -4)) then (if z = -4 then nI (lc (VV x.toNatClampNeg) (VV y.toNatClampNeg) (Vl x.toNatClampNeg) (Vl y.toNatClampNeg) 0 0) else if z < nI (lc (VV x.toNatClampNeg) (VV y.toNatClampNeg) (Vl x.toNatClampNeg) (Vl y.toNatClampNeg) 0 0) then nI (sfg (VV x.toNatClampNeg) (VV y.toNatClampNeg) (Vl x.toNatClampNeg) (Vl y.toNatClampNeg) z.toNatClampNeg) else -4) else -1
theorem ob_shared (h : OB9 cy bo g w fc lt vc len T Fl FB Vl VV) (x y z : Int32) : Met l yX9_shared (WS yX9_shared cX9_shared 4 (some .int)) (rmF 4 98) (PP [.ref (bd bo 0), .int x, .int y, .int z] D cy (bd bo) 114 g) (QI (fun r g1 => r = shA vc Vl VV x y z ∧ OB9 cy bo g1 w fc lt vc len T Fl FB Vl VV) D (bd bo) 114) 0 0 (AA (bd bo) 114) := by
  obtain ⟨Pw, nx0, un, rf, qc, lf, Po, Sh, SK, ps, h1, h2⟩ := h
  refine Met.QI (kc_shared l D cy bo g w Pw nx0 un rf qc fc lf lt vc len T Fl FB Po Vl VV Sh SK ps h1 h2 x y z) (fun r g1 q => ?_)
  obtain ⟨e, c, -⟩ := q
  exact ⟨e, _, _, _, _, _, _, _, _, _, _, h1, c⟩
theorem shA_n {vc v u k : Nat} {Vl : Nat → Nat} {VV : Nat → Nat → Nat} (hv : v < vc) (hu : u < vc) (h4 : vc ≤ 4) (hk : k < 2 ^ 31) (hl : lc (VV v) (VV u) (Vl v) (Vl u) 0 0 < 2 ^ 31) : shA vc Vl VV (nI v) (nI u) (nI k) = if k < lc (VV v) (VV u) (Vl v) (Vl u) 0 0 then nI (sfg (VV v) (VV u) (Vl v) (Vl u) k) else -4 := by
  have hi : isI (nI v) vc ∧ isI (nI u) vc ∧ (¬ nI k < 0 ∨ nI k = -4) := ⟨⟨nI_pos (by omega), nI_lt hv (by omega)⟩, ⟨nI_pos (by omega), nI_lt hu (by omega)⟩, Or.inl (nI_pos hk)⟩
  have hn : (nI v).toNatClampNeg = v := nI_clamp (by omega)
  have hn2 : (nI u).toNatClampNeg = u := nI_clamp (by omega)
  have hn3 : (nI k).toNatClampNeg = k := nI_clamp hk
  have h4 : ¬ nI k = -4 := fun q => by
    have := nI_pos (n := k) hk
    rw [q] at this
    exact this (by decide)
  unfold shA
  rw [if_pos hi, hn, hn2, hn3, if_neg h4]
  by_cases c : k < lc (VV v) (VV u) (Vl v) (Vl u) 0 0
  · rw [if_pos c, if_pos (nI_lt c hl)]
  · rw [if_neg c, if_neg (nI_nlt (by omega) hk)]
theorem shA_4 {vc v u : Nat} {Vl : Nat → Nat} {VV : Nat → Nat → Nat} (hv : v < vc) (hu : u < vc) (h4 : vc ≤ 4) : shA vc Vl VV (nI v) (nI u) (-4) = nI (lc (VV v) (VV u) (Vl v) (Vl u) 0 0) := by
  have hi : isI (nI v) vc ∧ isI (nI u) vc ∧ (¬ (-4 : Int32) < 0 ∨ (-4 : Int32) = -4) := ⟨⟨nI_pos (by omega), nI_lt hv (by omega)⟩, ⟨nI_pos (by omega), nI_lt hu (by omega)⟩, Or.inr rfl⟩
  have hn : (nI v).toNatClampNeg = v := nI_clamp (by omega)
  have hn2 : (nI u).toNatClampNeg = u := nI_clamp (by omega)
  unfold shA
  rw [if_pos hi, hn, hn2, if_pos rfl]
theorem shA_no {vc u : Nat} {Vl : Nat → Nat} {VV : Nat → Nat → Nat} {x z : Int32} (hu : vc ≤ u) (hu4 : u < 2 ^ 31) : shA vc Vl VV x (nI u) z = -1 := by
  unfold shA
  rw [if_neg (fun q => nI_nlt hu hu4 q.2.1.2)]
theorem ob_perform (h : OB9 cy bo g w fc lt vc len T Fl FB Vl VV) {v : Nat} (hv : v < vc) : Met l yX9_perform (WS yX9_perform cX9_perform 5 (some .int)) (rmF 7 163) (PP [.ref (bd bo 0), .int (nI v)] D cy (bd bo) 114 g) (QI (fun r g1 => ∃ S : FS × Int32 × Int32, S.1.1 = w ∧ S.2.2 = lt ∧ r = (pfA FB Fl fc (VV v) (Vl v) (Vl v) S 0).1 ∧ OB9 cy bo g1 (pfA FB Fl fc (VV v) (Vl v) (Vl v) S 0).2.1.1 fc (pfA FB Fl fc (VV v) (Vl v) (Vl v) S 0).2.2.2 vc len T Fl FB Vl VV) D (bd bo) 114) 0 0 (AA (bd bo) 114) := by
  have hb := h.bd.2.2.1
  obtain ⟨Pw, nx0, un, rf, qc, lf, Po, Sh, SK, ps, h1, h2⟩ := h
  have hi : isI (nI v) vc := ⟨nI_pos (by omega), nI_lt hv (by omega)⟩
  have hn : (nI v).toNatClampNeg = v := nI_clamp (by omega)
  have q2 := gp_perform h1 (nI v)
  refine Met.QI (kc_perform l D cy bo g w Pw nx0 un rf qc fc lf lt vc len T Fl FB Po Vl VV Sh SK ps h1 h2 (nI v)) (fun r g1 q => ?_)
  obtain ⟨e, c, -⟩ := q
  rw [if_pos hi, hn] at e c q2
  exact ⟨((w, Pw, nx0, un), rf, lt), rfl, rfl, e, _, _, _, _, _, _, _, _, _, _, q2, c⟩
theorem ob_why (h : OB9 cy bo g w fc lt vc len T Fl FB Vl VV) : Met l yX9_why (WS yX9_why cX9_why 1 (some .int)) (rmF 0 0) (PP [.ref (bd bo 0)] D cy (bd bo) 114 g) (vp_Si (fun r => r = lt)) 0 0 (fun _ => False) := by
  obtain ⟨Pw, nx0, un, rf, qc, lf, Po, Sh, SK, ps, h1, h2⟩ := h
  exact kc_why l D cy bo g w Pw nx0 un rf qc fc lf lt vc len T Fl FB Po Vl VV Sh SK ps h1 h2
theorem ob_place (h : OB9 cy bo g w fc lt vc len T Fl FB Vl VV) (x what : Int32) : Met l yX9_place (WS yX9_place cX9_place 4 (some .int)) (rmF 1 21) (PP [.ref (bd bo 0), .int x, .int what] D cy (bd bo) 114 g) (vp_Si (fun r => r = plA w x what)) 0 0 (fun _ => False) := by
  obtain ⟨Pw, nx0, un, rf, qc, lf, Po, Sh, SK, ps, h1, h2⟩ := h
  exact kc_place l D cy bo g w Pw nx0 un rf qc fc lf lt vc len T Fl FB Po Vl VV Sh SK ps h1 h2 x what
theorem ob_blade (h : OB9 cy bo g w fc lt vc len T Fl FB Vl VV) (x what : Int32) : Met l yX9_blade (WS yX9_blade cX9_blade 4 (some .int)) (rmF 5 114) (PP [.ref (bd bo 0), .int x, .int what] D cy (bd bo) 114 g) (vp_Si (fun r => r = if isI x (wn w) then blN w x.toNatClampNeg what else -1)) 0 0 (fun _ => False) := by
  obtain ⟨Pw, nx0, un, rf, qc, lf, Po, Sh, SK, ps, h1, h2⟩ := h
  exact kc_blade l D cy bo g w Pw nx0 un rf qc fc lf lt vc len T Fl FB Po Vl VV Sh SK ps h1 h2 x what
theorem ob_over (h : OB9 cy bo g w fc lt vc len T Fl FB Vl VV) (x y : Int32) : Met l yX9_over (WS yX9_over cX9_over 4 (some .int)) (rmF 2 44) (PP [.ref (bd bo 0), .int x, .int y] D cy (bd bo) 114 g) (vp_Si (fun r => r = ovA w x y)) 0 0 (fun _ => False) := by
  obtain ⟨Pw, nx0, un, rf, qc, lf, Po, Sh, SK, ps, h1, h2⟩ := h
  exact kc_over l D cy bo g w Pw nx0 un rf qc fc lf lt vc len T Fl FB Po Vl VV Sh SK ps h1 h2 x y
theorem ob_danceOf (h : OB9 cy bo g w fc lt vc len T Fl FB Vl VV) (x what : Int32) : Met l yX9_danceOf (WS yX9_danceOf cX9_danceOf 4 (some .int)) (rmF 2 45) (PP [.ref (bd bo 0), .int x, .int what] D cy (bd bo) 114 g) (vp_Si (fun r => r = dnA Vl VV Fl fc vc x what)) 0 0 (fun _ => False) := by
  obtain ⟨Pw, nx0, un, rf, qc, lf, Po, Sh, SK, ps, h1, h2⟩ := h
  exact kc_danceOf l D cy bo g w Pw nx0 un rf qc fc lf lt vc len T Fl FB Po Vl VV Sh SK ps h1 h2 x what
end OBJ

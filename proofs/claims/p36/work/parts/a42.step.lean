theorem Met.post {l : Launch} {y : MethodName} {ws : List Cond} {rm : Room} {Pc : Array Value → State → Prop} {Qc Qd : Array Value → State → Outcome → State → Prop} {mc ms : Nat} {free : Addr → Prop} (h : Met l y ws rm Pc Qc mc ms free) (hq : ∀ a st o t, Qc a st o t → Qd a st o t) : Met l y ws rm Pc Qd mc ms free := fun p e ha hc hk s m args below hf hs hp ht => by
  obtain ⟨n, o, h1, h2, h3, h4, h5⟩ := h p e ha hc hk s m args below hf hs hp ht
  exact ⟨n, o, h1, h2, h3, hq _ _ _ _ h4, h5⟩
theorem Met.QI {l : Launch} {y : MethodName} {ws : List Cond} {rm : Room} {Pc : Array Value → State → Prop} {post post2 : Int32 → (Nat → va_E) → Prop} {mc ms : Nat} {free : Addr → Prop} {D : va_G} {ad : Nat → Nat} {N : Nat} (h : Met l y ws rm Pc (QI post D ad N) mc ms free) (hq : ∀ r g1, post r g1 → post2 r g1) : Met l y ws rm Pc (QI post2 D ad N) mc ms free :=
  Met.post h (fun a st o t z => by
    obtain ⟨⟨r, u, h1, h2, h3⟩, h4⟩ := z
    exact ⟨⟨r, u, h1, hq _ _ h2, h3⟩, h4⟩)

theorem isI_lt {x : Int32} {n : Nat} (hn : n < 2 ^ 31) (h : isI x n) : x.toNatClampNeg < n := by
  obtain ⟨k, hk, rfl⟩ := isI_nat hn h
  rw [nI_clamp (by omega)]
  exact hk
theorem endL {x : Int32} {n : Nat} (hn : n ≤ 160) : (if isI x (n + 1) then x.toNatClampNeg else n) ≤ n := by
  split
  · rename_i h; have := isI_lt (n := n + 1) (by omega) h; omega
  · exact Nat.le_refl _
theorem rgI_ok {x : Int32} (h : rgI x) : WOK (bgW x.toNatClampNeg) := by
  have h0 : isI x 9 := by
    refine ⟨fun q => h.1 (Int32.lt_trans q (by decide)), ?_⟩
    rcases Int32.lt_or_le x (nI 9) with z | z
    · exact z
    · exact absurd (Int32.lt_of_lt_of_le (show nI 8 < nI 9 by decide) z) h.2
  obtain ⟨k, hk, rfl⟩ := isI_nat (by decide) h0
  rw [nI_clamp (by omega)]
  refine bgW_ok ⟨?_, by omega⟩
  rcases Nat.lt_or_ge k 4 with z | z
  · exact absurd ((nI_ltI (by omega) (by decide)).mpr z) h.1
  · exact z
set_option maxHeartbeats 1000000 in
theorem kc_ring (l : Launch) (D : va_G) (cy : Nat → ClassId) (b0 : Nat) (g : Nat → va_E) (w : WT) (Pw : Nat → WT) (nx0 : Nat) (un : Nat) (rf : Int32) (qc : Nat) (fc : Nat) (lf : Int32) (lt : Int32) (vc : Nat) (len : Nat) (T : Nat → Nat) (Fl : Nat → Nat) (FB : Nat → Nat → Nat) (Po : Nat → WT) (Vl : Nat → Nat) (VV : Nat → Nat → Nat) (Sh : Nat → Int32 × Nat) (SK : Nat → Nat → Int32) (ps : PS) (hp : GP w Pw nx0 un rf qc fc lf lt vc len T Fl FB Po Vl VV Sh SK ps) (hv : CIv (bd b0) cy g w Pw nx0 un rf qc fc lf lt vc len T Fl FB Po Vl VV Sh SK ps) (x0 : Int32) : Met l yX9_ring (WS yX9_ring cX9_ring 2 (some .int)) (rmF 2 41) (PP [.ref (bd b0 0), .int x0] D cy (bd b0) 114 g) (QI (fun r g1 => (r = if rgI x0 then 1 else -1) ∧ CIv (bd b0) cy g1 (if rgI x0 then bgW x0.toNatClampNeg else w) Pw nx0 (if rgI x0 then 0 else un) rf (if rgI x0 then 0 else qc) fc lf lt vc len T Fl FB Po Vl VV Sh SK ps ∧ ∀ j, 114 ≤ j → g1 j = g j) D (bd b0) 114) 0 0 (AA (bd b0) 114) := by
  obtain ⟨gF, gq, gf, gv, gl, gT, gFl, gFB, gPo, gPn, gVl, gVV, gSz, gS⟩ := hp
  obtain ⟨q_gcO, q_gcF, q_gcT, q_gcQ, q_gcP, q_gcS, q_gcK, q_gcL, q_gcG, q_gcV, q_gcH, q_gcE⟩ := hv
  have O_hX := q_gcO
  obtain ⟨F_fa, F_hg, F_hgn, F_hga, F_hfa, F_hfam⟩ := id q_gcF
  refine Met.QI (c_X9_ring l D cy (bd b0) 114 g bd_inj (Nat.le_of_ble_eq_true rfl) qc fc lf lt vc O_hX nx0 un rf F_hg w F_hgn _ F_hga F_hfa Pw F_hfam gF.2.2.1 gF.2.2.2 gF.1 gF.2.1 x0) (fun r g1 q => ?_)
  obtain ⟨hr, c_1, c_2, c_3, fr⟩ := q
  exact ⟨hr, ⟨c_1, ⟨_, c_2, c_3, ((fr _ (by omega) (by omega) (by omega)).trans F_hga), F_hfa, (fun j hj => (fr _ (by omega) (by omega) (by omega)).trans (F_hfam j hj))⟩, (gcT_fr q_gcT (fun j a b => fr j (by omega) (by omega) (by omega))), (gcQ_fr q_gcQ (fun j a b => fr j (by omega) (by omega) (by omega))), (gcP_fr q_gcP (fr _ (by omega) (by omega) (by omega)) (fun j a b => fr j (by omega) (by omega) (by omega))), (gcS_fr q_gcS (fun j a b => fr j (by omega) (by omega) (by omega))), (gcK_fr q_gcK (fun j a b => fr j (by omega) (by omega) (by omega))), (gcL_fr q_gcL (fun j a b => fr j (by omega) (by omega) (by omega))), (gcG_fr q_gcG (fr _ (by omega) (by omega) (by omega)) (fun j a b => fr j (by omega) (by omega) (by omega))), (gcV_fr q_gcV (fr _ (by omega) (by omega) (by omega)) (fun j a b => fr j (by omega) (by omega) (by omega))), (gcH_fr q_gcH (fun j a b => fr j (by omega) (by omega) (by omega))), (gcE_fr q_gcE (fr _ (by omega) (by omega) (by omega)) (fun j a b => fr j (by omega) (by omega) (by omega)))⟩, fun j hj => fr j (by omega) (by omega) (by omega)⟩
theorem gp_ring {w : WT} {Pw : Nat → WT} {nx0 : Nat} {un : Nat} {rf : Int32} {qc : Nat} {fc : Nat} {lf : Int32} {lt : Int32} {vc : Nat} {len : Nat} {T : Nat → Nat} {Fl : Nat → Nat} {FB : Nat → Nat → Nat} {Po : Nat → WT} {Vl : Nat → Nat} {VV : Nat → Nat → Nat} {Sh : Nat → Int32 × Nat} {SK : Nat → Nat → Int32} {ps : PS} (hp : GP w Pw nx0 un rf qc fc lf lt vc len T Fl FB Po Vl VV Sh SK ps) (x0 : Int32) : GP (if rgI x0 then bgW x0.toNatClampNeg else w) Pw nx0 (if rgI x0 then 0 else un) rf (if rgI x0 then 0 else qc) fc lf lt vc len T Fl FB Po Vl VV Sh SK ps := by
  obtain ⟨gF, gq, gf, gv, gl, gT, gFl, gFB, gPo, gPn, gVl, gVV, gSz, gS⟩ := hp
  unfold GP
  by_cases c9 : rgI x0
  · simp only [if_pos c9]
    exact ⟨⟨rgI_ok c9, gF.2.1, gF.2.2.1, Nat.zero_le _⟩, Nat.zero_le _, gf, gv, gl, gT, gFl, gFB, gPo, (fun j hj => absurd hj (Nat.not_lt_zero _)), gVl, gVV, gSz, gS⟩
  · simp only [if_neg c9]
    exact ⟨gF, gq, gf, gv, gl, gT, gFl, gFB, gPo, gPn, gVl, gVV, gSz, gS⟩
set_option maxHeartbeats 1000000 in
theorem kc_place (l : Launch) (D : va_G) (cy : Nat → ClassId) (b0 : Nat) (g : Nat → va_E) (w : WT) (Pw : Nat → WT) (nx0 : Nat) (un : Nat) (rf : Int32) (qc : Nat) (fc : Nat) (lf : Int32) (lt : Int32) (vc : Nat) (len : Nat) (T : Nat → Nat) (Fl : Nat → Nat) (FB : Nat → Nat → Nat) (Po : Nat → WT) (Vl : Nat → Nat) (VV : Nat → Nat → Nat) (Sh : Nat → Int32 × Nat) (SK : Nat → Nat → Int32) (ps : PS) (hp : GP w Pw nx0 un rf qc fc lf lt vc len T Fl FB Po Vl VV Sh SK ps) (hv : CIv (bd b0) cy g w Pw nx0 un rf qc fc lf lt vc len T Fl FB Po Vl VV Sh SK ps) (x0 : Int32) (what : Int32) : Met l yX9_place (WS yX9_place cX9_place 4 (some .int)) (rmF 1 21) (PP [.ref (bd b0 0), .int x0, .int what] D cy (bd b0) 114 g) (vp_Si (fun r => r = plA w x0 what)) 0 0 (fun _ => False) := by
  obtain ⟨gF, gq, gf, gv, gl, gT, gFl, gFB, gPo, gPn, gVl, gVV, gSz, gS⟩ := hp
  obtain ⟨q_gcO, q_gcF, q_gcT, q_gcQ, q_gcP, q_gcS, q_gcK, q_gcL, q_gcG, q_gcV, q_gcH, q_gcE⟩ := hv
  have O_hX := q_gcO
  obtain ⟨F_fa, F_hg, F_hgn, F_hga, F_hfa, F_hfam⟩ := id q_gcF
  exact c_X9_place l D cy (bd b0) 114 g (Nat.le_of_ble_eq_true rfl) qc fc lf lt vc O_hX nx0 un rf F_hg w F_hgn _ F_hga F_hfa Pw F_hfam gF.2.2.1 gF.2.2.2 gF.1 gF.2.1 x0 what
set_option maxHeartbeats 1000000 in
theorem kc_blade (l : Launch) (D : va_G) (cy : Nat → ClassId) (b0 : Nat) (g : Nat → va_E) (w : WT) (Pw : Nat → WT) (nx0 : Nat) (un : Nat) (rf : Int32) (qc : Nat) (fc : Nat) (lf : Int32) (lt : Int32) (vc : Nat) (len : Nat) (T : Nat → Nat) (Fl : Nat → Nat) (FB : Nat → Nat → Nat) (Po : Nat → WT) (Vl : Nat → Nat) (VV : Nat → Nat → Nat) (Sh : Nat → Int32 × Nat) (SK : Nat → Nat → Int32) (ps : PS) (hp : GP w Pw nx0 un rf qc fc lf lt vc len T Fl FB Po Vl VV Sh SK ps) (hv : CIv (bd b0) cy g w Pw nx0 un rf qc fc lf lt vc len T Fl FB Po Vl VV Sh SK ps) (x0 : Int32) (what : Int32) : Met l yX9_blade (WS yX9_blade cX9_blade 4 (some .int)) (rmF 5 114) (PP [.ref (bd b0 0), .int x0, .int what] D cy (bd b0) 114 g) (vp_Si (fun r => r = if isI x0 (wn w) then blN w x0.toNatClampNeg what else -1)) 0 0 (fun _ => False) := by
  obtain ⟨gF, gq, gf, gv, gl, gT, gFl, gFB, gPo, gPn, gVl, gVV, gSz, gS⟩ := hp
  obtain ⟨q_gcO, q_gcF, q_gcT, q_gcQ, q_gcP, q_gcS, q_gcK, q_gcL, q_gcG, q_gcV, q_gcH, q_gcE⟩ := hv
  have O_hX := q_gcO
  obtain ⟨F_fa, F_hg, F_hgn, F_hga, F_hfa, F_hfam⟩ := id q_gcF
  exact c_X9_blade l D cy (bd b0) 114 g (Nat.le_of_ble_eq_true rfl) qc fc lf lt vc O_hX nx0 un rf F_hg w F_hgn _ F_hga F_hfa Pw F_hfam gF.2.2.1 gF.2.2.2 gF.1 gF.2.1 x0 what
set_option maxHeartbeats 1000000 in
theorem kc_over (l : Launch) (D : va_G) (cy : Nat → ClassId) (b0 : Nat) (g : Nat → va_E) (w : WT) (Pw : Nat → WT) (nx0 : Nat) (un : Nat) (rf : Int32) (qc : Nat) (fc : Nat) (lf : Int32) (lt : Int32) (vc : Nat) (len : Nat) (T : Nat → Nat) (Fl : Nat → Nat) (FB : Nat → Nat → Nat) (Po : Nat → WT) (Vl : Nat → Nat) (VV : Nat → Nat → Nat) (Sh : Nat → Int32 × Nat) (SK : Nat → Nat → Int32) (ps : PS) (hp : GP w Pw nx0 un rf qc fc lf lt vc len T Fl FB Po Vl VV Sh SK ps) (hv : CIv (bd b0) cy g w Pw nx0 un rf qc fc lf lt vc len T Fl FB Po Vl VV Sh SK ps) (x0 : Int32) (y0 : Int32) : Met l yX9_over (WS yX9_over cX9_over 4 (some .int)) (rmF 2 44) (PP [.ref (bd b0 0), .int x0, .int y0] D cy (bd b0) 114 g) (vp_Si (fun r => r = ovA w x0 y0)) 0 0 (fun _ => False) := by
  obtain ⟨gF, gq, gf, gv, gl, gT, gFl, gFB, gPo, gPn, gVl, gVV, gSz, gS⟩ := hp
  obtain ⟨q_gcO, q_gcF, q_gcT, q_gcQ, q_gcP, q_gcS, q_gcK, q_gcL, q_gcG, q_gcV, q_gcH, q_gcE⟩ := hv
  have O_hX := q_gcO
  obtain ⟨F_fa, F_hg, F_hgn, F_hga, F_hfa, F_hfam⟩ := id q_gcF
  exact c_X9_over l D cy (bd b0) 114 g (Nat.le_of_ble_eq_true rfl) qc fc lf lt vc O_hX nx0 un rf F_hg w F_hgn _ F_hga F_hfa Pw F_hfam gF.2.2.1 gF.2.2.2 gF.1 gF.2.1 x0 y0
set_option maxHeartbeats 1000000 in
theorem kc_feed (l : Launch) (D : va_G) (cy : Nat → ClassId) (b0 : Nat) (g : Nat → va_E) (w : WT) (Pw : Nat → WT) (nx0 : Nat) (un : Nat) (rf : Int32) (qc : Nat) (fc : Nat) (lf : Int32) (lt : Int32) (vc : Nat) (len : Nat) (T : Nat → Nat) (Fl : Nat → Nat) (FB : Nat → Nat → Nat) (Po : Nat → WT) (Vl : Nat → Nat) (VV : Nat → Nat → Nat) (Sh : Nat → Int32 × Nat) (SK : Nat → Nat → Int32) (ps : PS) (hp : GP w Pw nx0 un rf qc fc lf lt vc len T Fl FB Po Vl VV Sh SK ps) (hv : CIv (bd b0) cy g w Pw nx0 un rf qc fc lf lt vc len T Fl FB Po Vl VV Sh SK ps) (vv : Nat) (hvv : vv < 2 ^ 64) : Met l yX9_feed (WS yX9_feed cX9_feed 3 (some .int)) (rmF 1 23) (PP [.ref (bd b0 0), .long (lN vv)] D cy (bd b0) 114 g) (QI (fun r g1 => (r = if len + 8 ≤ 160 then nI (len + 8) else -3) ∧ CIv (bd b0) cy g1 w Pw nx0 un rf qc fc lf lt vc (if len + 8 ≤ 160 then len + 8 else len) (if len + 8 ≤ 160 then feT T len vv 8 else T) Fl FB Po Vl VV Sh SK ps ∧ ∀ j, 114 ≤ j → g1 j = g j) D (bd b0) 114) 0 0 (AA (bd b0) 114) := by
  obtain ⟨gF, gq, gf, gv, gl, gT, gFl, gFB, gPo, gPn, gVl, gVV, gSz, gS⟩ := hp
  obtain ⟨q_gcO, q_gcF, q_gcT, q_gcQ, q_gcP, q_gcS, q_gcK, q_gcL, q_gcG, q_gcV, q_gcH, q_gcE⟩ := hv
  have O_hX := q_gcO
  obtain ⟨K_rd, K_kd, K_pl0, K_vl, K_hg, K_hgt⟩ := id q_gcK
  refine Met.QI (c_X9_feed l D cy (bd b0) 114 g bd_inj (Nat.le_of_ble_eq_true rfl) qc fc lf lt vc O_hX len _ _ _ _ T K_hg K_hgt gl gT vv hvv) (fun r g1 q => ?_)
  obtain ⟨hr, c_1, c_2, fr⟩ := q
  exact ⟨hr, ⟨(gcO_fr q_gcO (fun j a b => fr j (by omega) (by omega))), (gcF_fr q_gcF (fun j a b => fr j (by omega) (by omega))), (gcT_fr q_gcT (fun j a b => fr j (by omega) (by omega))), (gcQ_fr q_gcQ (fun j a b => fr j (by omega) (by omega))), (gcP_fr q_gcP (fr _ (by omega) (by omega)) (fun j a b => fr j (by omega) (by omega))), (gcS_fr q_gcS (fun j a b => fr j (by omega) (by omega))), ⟨_, _, _, _, c_1, c_2⟩, (gcL_fr q_gcL (fun j a b => fr j (by omega) (by omega))), (gcG_fr q_gcG (fr _ (by omega) (by omega)) (fun j a b => fr j (by omega) (by omega))), (gcV_fr q_gcV (fr _ (by omega) (by omega)) (fun j a b => fr j (by omega) (by omega))), (gcH_fr q_gcH (fun j a b => fr j (by omega) (by omega))), (gcE_fr q_gcE (fr _ (by omega) (by omega)) (fun j a b => fr j (by omega) (by omega)))⟩, fun j hj => fr j (by omega) (by omega)⟩
theorem gp_feed {w : WT} {Pw : Nat → WT} {nx0 : Nat} {un : Nat} {rf : Int32} {qc : Nat} {fc : Nat} {lf : Int32} {lt : Int32} {vc : Nat} {len : Nat} {T : Nat → Nat} {Fl : Nat → Nat} {FB : Nat → Nat → Nat} {Po : Nat → WT} {Vl : Nat → Nat} {VV : Nat → Nat → Nat} {Sh : Nat → Int32 × Nat} {SK : Nat → Nat → Int32} {ps : PS} (hp : GP w Pw nx0 un rf qc fc lf lt vc len T Fl FB Po Vl VV Sh SK ps) (vv : Nat) : GP w Pw nx0 un rf qc fc lf lt vc (if len + 8 ≤ 160 then len + 8 else len) (if len + 8 ≤ 160 then feT T len vv 8 else T) Fl FB Po Vl VV Sh SK ps := by
  obtain ⟨gF, gq, gf, gv, gl, gT, gFl, gFB, gPo, gPn, gVl, gVV, gSz, gS⟩ := hp
  unfold GP
  by_cases c9 : len + 8 ≤ 160
  · simp only [if_pos c9]
    exact ⟨gF, gq, gf, gv, c9, feT_lt gT 8, gFl, gFB, gPo, gPn, gVl, gVV, gSz, gS⟩
  · simp only [if_neg c9]
    exact ⟨gF, gq, gf, gv, gl, gT, gFl, gFB, gPo, gPn, gVl, gVV, gSz, gS⟩
set_option maxHeartbeats 1000000 in
theorem kc_end (l : Launch) (D : va_G) (cy : Nat → ClassId) (b0 : Nat) (g : Nat → va_E) (w : WT) (Pw : Nat → WT) (nx0 : Nat) (un : Nat) (rf : Int32) (qc : Nat) (fc : Nat) (lf : Int32) (lt : Int32) (vc : Nat) (len : Nat) (T : Nat → Nat) (Fl : Nat → Nat) (FB : Nat → Nat → Nat) (Po : Nat → WT) (Vl : Nat → Nat) (VV : Nat → Nat → Nat) (Sh : Nat → Int32 × Nat) (SK : Nat → Nat → Int32) (ps : PS) (hp : GP w Pw nx0 un rf qc fc lf lt vc len T Fl FB Po Vl VV Sh SK ps) (hv : CIv (bd b0) cy g w Pw nx0 un rf qc fc lf lt vc len T Fl FB Po Vl VV Sh SK ps) (x0 : Int32) : Met l yX9_end (WS yX9_end cX9_end 3 (some .int)) (rmF 0 0) (PP [.ref (bd b0 0), .int x0] D cy (bd b0) 114 g) (QI (fun r g1 => (r = if isI x0 (len + 1) then nI len else -1) ∧ CIv (bd b0) cy g1 w Pw nx0 un rf qc fc lf lt vc (if isI x0 (len + 1) then x0.toNatClampNeg else len) T Fl FB Po Vl VV Sh SK ps ∧ ∀ j, 114 ≤ j → g1 j = g j) D (bd b0) 114) 0 0 (AA (bd b0) 114) := by
  obtain ⟨gF, gq, gf, gv, gl, gT, gFl, gFB, gPo, gPn, gVl, gVV, gSz, gS⟩ := hp
  obtain ⟨q_gcO, q_gcF, q_gcT, q_gcQ, q_gcP, q_gcS, q_gcK, q_gcL, q_gcG, q_gcV, q_gcH, q_gcE⟩ := hv
  have O_hX := q_gcO
  obtain ⟨K_rd, K_kd, K_pl0, K_vl, K_hg, K_hgt⟩ := id q_gcK
  refine Met.QI (c_X9_end l D cy (bd b0) 114 g bd_inj (Nat.le_of_ble_eq_true rfl) qc fc lf lt vc O_hX len _ _ _ _ T K_hg K_hgt gl gT x0) (fun r g1 q => ?_)
  obtain ⟨hr, c_1, fr⟩ := q
  exact ⟨hr, ⟨(gcO_fr q_gcO (fun j a b => fr j (by omega))), (gcF_fr q_gcF (fun j a b => fr j (by omega))), (gcT_fr q_gcT (fun j a b => fr j (by omega))), (gcQ_fr q_gcQ (fun j a b => fr j (by omega))), (gcP_fr q_gcP (fr _ (by omega)) (fun j a b => fr j (by omega))), (gcS_fr q_gcS (fun j a b => fr j (by omega))), ⟨_, _, _, _, c_1, ((fr _ (by omega)).trans K_hgt)⟩, (gcL_fr q_gcL (fun j a b => fr j (by omega))), (gcG_fr q_gcG (fr _ (by omega)) (fun j a b => fr j (by omega))), (gcV_fr q_gcV (fr _ (by omega)) (fun j a b => fr j (by omega))), (gcH_fr q_gcH (fun j a b => fr j (by omega))), (gcE_fr q_gcE (fr _ (by omega)) (fun j a b => fr j (by omega)))⟩, fun j hj => fr j (by omega)⟩
theorem gp_end {w : WT} {Pw : Nat → WT} {nx0 : Nat} {un : Nat} {rf : Int32} {qc : Nat} {fc : Nat} {lf : Int32} {lt : Int32} {vc : Nat} {len : Nat} {T : Nat → Nat} {Fl : Nat → Nat} {FB : Nat → Nat → Nat} {Po : Nat → WT} {Vl : Nat → Nat} {VV : Nat → Nat → Nat} {Sh : Nat → Int32 × Nat} {SK : Nat → Nat → Int32} {ps : PS} (hp : GP w Pw nx0 un rf qc fc lf lt vc len T Fl FB Po Vl VV Sh SK ps) (x0 : Int32) : GP w Pw nx0 un rf qc fc lf lt vc (if isI x0 (len + 1) then x0.toNatClampNeg else len) T Fl FB Po Vl VV Sh SK ps := by
  obtain ⟨gF, gq, gf, gv, gl, gT, gFl, gFB, gPo, gPn, gVl, gVV, gSz, gS⟩ := hp
  exact ⟨gF, gq, gf, gv, Nat.le_trans (endL gl) gl, gT, gFl, gFB, gPo, gPn, gVl, gVV, gSz, gS⟩
set_option maxHeartbeats 1000000 in
theorem kc_why (l : Launch) (D : va_G) (cy : Nat → ClassId) (b0 : Nat) (g : Nat → va_E) (w : WT) (Pw : Nat → WT) (nx0 : Nat) (un : Nat) (rf : Int32) (qc : Nat) (fc : Nat) (lf : Int32) (lt : Int32) (vc : Nat) (len : Nat) (T : Nat → Nat) (Fl : Nat → Nat) (FB : Nat → Nat → Nat) (Po : Nat → WT) (Vl : Nat → Nat) (VV : Nat → Nat → Nat) (Sh : Nat → Int32 × Nat) (SK : Nat → Nat → Int32) (ps : PS) (hp : GP w Pw nx0 un rf qc fc lf lt vc len T Fl FB Po Vl VV Sh SK ps) (hv : CIv (bd b0) cy g w Pw nx0 un rf qc fc lf lt vc len T Fl FB Po Vl VV Sh SK ps) : Met l yX9_why (WS yX9_why cX9_why 1 (some .int)) (rmF 0 0) (PP [.ref (bd b0 0)] D cy (bd b0) 114 g) (vp_Si (fun r => r = lt)) 0 0 (fun _ => False) := by
  obtain ⟨gF, gq, gf, gv, gl, gT, gFl, gFB, gPo, gPn, gVl, gVV, gSz, gS⟩ := hp
  obtain ⟨q_gcO, q_gcF, q_gcT, q_gcQ, q_gcP, q_gcS, q_gcK, q_gcL, q_gcG, q_gcV, q_gcH, q_gcE⟩ := hv
  have O_hX := q_gcO
  exact c_X9_why l D cy (bd b0) 114 g (Nat.le_of_ble_eq_true rfl) qc fc lf lt vc O_hX
theorem shR {V1 V2 R0 : Nat → Nat} {n1 n2 : Nat} {z : Int32} (hL : lc V1 V2 n1 n2 0 0 ≤ 16) (h0 : ¬ z < 0 ∨ z = -4) : (if z = -4 then nI (lc V1 V2 n1 n2 0 0) else if z < nI (lc V1 V2 n1 n2 0 0) then nI (sRw V1 V2 n1 n2 R0 (lc V1 V2 n1 n2 0 0) z.toNatClampNeg) else -4) = (if z = -4 then nI (lc V1 V2 n1 n2 0 0) else if z < nI (lc V1 V2 n1 n2 0 0) then nI (sfg V1 V2 n1 n2 z.toNatClampNeg) else -4) := by
  by_cases c : z = -4
  · rw [if_pos c, if_pos c]
  · rw [if_neg c, if_neg c]
    by_cases c2 : z < nI (lc V1 V2 n1 n2 0 0)
    · rw [if_pos c2, if_pos c2]
      have h := isI_lt (n := lc V1 V2 n1 n2 0 0) (by omega) ⟨h0.resolve_right c, c2⟩
      show nI (if z.toNatClampNeg < lc V1 V2 n1 n2 0 0 then _ else _) = _
      rw [if_pos h]
    · rw [if_neg c2, if_neg c2]
theorem scW {C : Nat → Int32} {p1 p2 p3 : Prop} (d1 : Decidable p1) (d2 : Decidable p2) (d3 : Decidable p3) {sz n : Nat} {f0 x1 x2 x3 : Int32} {F : FS} (h : FOK F) : FOK (if p1 then (if p2 then (x1, F) else if p3 then scA C sz f0 n n F 0 else (x2, F)) else (x3, F)).2 ∧ wn (if p1 then (if p2 then (x1, F) else if p3 then scA C sz f0 n n F 0 else (x2, F)) else (x3, F)).2.1 = wn F.1 := by
  by_cases c1 : p1
  · rw [if_pos c1]
    by_cases c2 : p2
    · rw [if_pos c2]; exact ⟨h, rfl⟩
    · rw [if_neg c2]
      by_cases c3 : p3
      · rw [if_pos c3]; exact scA_e0 n 0 F (Nat.add_zero _) h
      · rw [if_neg c3]; exact ⟨h, rfl⟩
  · rw [if_neg c1]; exact ⟨h, rfl⟩
theorem pfW {FB : Nat → Nat → Nat} {Fl V : Nat → Nat} {fc len : Nat} {p1 : Prop} (d1 : Decidable p1) {x1 a b : Int32} {F : FS} (h : FOK F) : FOK (if p1 then pfA FB Fl fc V len len (F, a, b) 0 else (x1, F, a, b)).2.1 ∧ wn (if p1 then pfA FB Fl fc V len len (F, a, b) 0 else (x1, F, a, b)).2.1.1 = wn F.1 := by
  by_cases c1 : p1
  · rw [if_pos c1]; exact pfA_e0 len 0 (F, a, b) (Nat.add_zero _) h
  · rw [if_neg c1]; exact ⟨h, rfl⟩
set_option maxHeartbeats 1000000 in
theorem kc_dance (l : Launch) (D : va_G) (cy : Nat → ClassId) (b0 : Nat) (g : Nat → va_E) (w : WT) (Pw : Nat → WT) (nx0 : Nat) (un : Nat) (rf : Int32) (qc : Nat) (fc : Nat) (lf : Int32) (lt : Int32) (vc : Nat) (len : Nat) (T : Nat → Nat) (Fl : Nat → Nat) (FB : Nat → Nat → Nat) (Po : Nat → WT) (Vl : Nat → Nat) (VV : Nat → Nat → Nat) (Sh : Nat → Int32 × Nat) (SK : Nat → Nat → Int32) (ps : PS) (hp : GP w Pw nx0 un rf qc fc lf lt vc len T Fl FB Po Vl VV Sh SK ps) (hv : CIv (bd b0) cy g w Pw nx0 un rf qc fc lf lt vc len T Fl FB Po Vl VV Sh SK ps) (x0 : Int32) : Met l yX9_dance (WS yX9_dance cX9_dance 2 (some .int)) (rmF 7 163) (PP [.ref (bd b0 0), .int x0] D cy (bd b0) 114 g) (QI (fun r g1 => (r = if isI x0 fc then dnF (rn (FB x0.toNatClampNeg) (Fl x0.toNatClampNeg) 0 (w, Pw, nx0, un) (Fl x0.toNatClampNeg)) else -1) ∧ CIv (bd b0) cy g1 (if isI x0 fc then (rn (FB x0.toNatClampNeg) (Fl x0.toNatClampNeg) 0 (w, Pw, nx0, un) (Fl x0.toNatClampNeg)).2.2.1 else w) (if isI x0 fc then (rn (FB x0.toNatClampNeg) (Fl x0.toNatClampNeg) 0 (w, Pw, nx0, un) (Fl x0.toNatClampNeg)).2.2.2.1 else Pw) (if isI x0 fc then (rn (FB x0.toNatClampNeg) (Fl x0.toNatClampNeg) 0 (w, Pw, nx0, un) (Fl x0.toNatClampNeg)).2.2.2.2.1 else nx0) (if isI x0 fc then (rn (FB x0.toNatClampNeg) (Fl x0.toNatClampNeg) 0 (w, Pw, nx0, un) (Fl x0.toNatClampNeg)).2.2.2.2.2 else un) (if isI x0 fc then (rn (FB x0.toNatClampNeg) (Fl x0.toNatClampNeg) 0 (w, Pw, nx0, un) (Fl x0.toNatClampNeg)).2.1 else rf) qc fc lf (if isI x0 fc then (rn (FB x0.toNatClampNeg) (Fl x0.toNatClampNeg) 0 (w, Pw, nx0, un) (Fl x0.toNatClampNeg)).2.1 else lt) vc len T Fl FB Po Vl VV Sh SK ps ∧ ∀ j, 114 ≤ j → g1 j = g j) D (bd b0) 114) 0 0 (AA (bd b0) 114) := by
  obtain ⟨gF, gq, gf, gv, gl, gT, gFl, gFB, gPo, gPn, gVl, gVV, gSz, gS⟩ := hp
  obtain ⟨q_gcO, q_gcF, q_gcT, q_gcQ, q_gcP, q_gcS, q_gcK, q_gcL, q_gcG, q_gcV, q_gcH, q_gcE⟩ := hv
  have O_hX := q_gcO
  obtain ⟨F_fa, F_hg, F_hgn, F_hga, F_hfa, F_hfam⟩ := id q_gcF
  obtain ⟨G_ff, G_hff, G_hfj, G_hFo, G_hFb⟩ := id q_gcG
  refine Met.QI (c_X9_dance l D cy (bd b0) 114 g bd_inj (Nat.le_of_ble_eq_true rfl) qc fc lf lt vc O_hX nx0 un rf F_hg w F_hgn _ F_hga F_hfa Pw F_hfam gF.2.2.1 gF.2.2.2 gF.1 gF.2.1 _ G_hff gf G_hfj Fl G_hFo gFl FB G_hFb gFB x0) (fun r g1 q => ?_)
  obtain ⟨hr, c_1, c_2, c_3, c_4, c_5, fr⟩ := q
  exact ⟨hr, ⟨c_1, ⟨_, c_2, c_3, c_4, F_hfa, c_5⟩, (gcT_fr q_gcT (fun j a b => fr j (by omega))), (gcQ_fr q_gcQ (fun j a b => fr j (by omega))), (gcP_fr q_gcP (fr _ (by omega)) (fun j a b => fr j (by omega))), (gcS_fr q_gcS (fun j a b => fr j (by omega))), (gcK_fr q_gcK (fun j a b => fr j (by omega))), (gcL_fr q_gcL (fun j a b => fr j (by omega))), (gcG_fr q_gcG (fr _ (by omega)) (fun j a b => fr j (by omega))), (gcV_fr q_gcV (fr _ (by omega)) (fun j a b => fr j (by omega))), (gcH_fr q_gcH (fun j a b => fr j (by omega))), (gcE_fr q_gcE (fr _ (by omega)) (fun j a b => fr j (by omega)))⟩, fun j hj => fr j (by omega)⟩
theorem gp_dance {w : WT} {Pw : Nat → WT} {nx0 : Nat} {un : Nat} {rf : Int32} {qc : Nat} {fc : Nat} {lf : Int32} {lt : Int32} {vc : Nat} {len : Nat} {T : Nat → Nat} {Fl : Nat → Nat} {FB : Nat → Nat → Nat} {Po : Nat → WT} {Vl : Nat → Nat} {VV : Nat → Nat → Nat} {Sh : Nat → Int32 × Nat} {SK : Nat → Nat → Int32} {ps : PS} (hp : GP w Pw nx0 un rf qc fc lf lt vc len T Fl FB Po Vl VV Sh SK ps) (x0 : Int32) : GP (if isI x0 fc then (rn (FB x0.toNatClampNeg) (Fl x0.toNatClampNeg) 0 (w, Pw, nx0, un) (Fl x0.toNatClampNeg)).2.2.1 else w) (if isI x0 fc then (rn (FB x0.toNatClampNeg) (Fl x0.toNatClampNeg) 0 (w, Pw, nx0, un) (Fl x0.toNatClampNeg)).2.2.2.1 else Pw) (if isI x0 fc then (rn (FB x0.toNatClampNeg) (Fl x0.toNatClampNeg) 0 (w, Pw, nx0, un) (Fl x0.toNatClampNeg)).2.2.2.2.1 else nx0) (if isI x0 fc then (rn (FB x0.toNatClampNeg) (Fl x0.toNatClampNeg) 0 (w, Pw, nx0, un) (Fl x0.toNatClampNeg)).2.2.2.2.2 else un) (if isI x0 fc then (rn (FB x0.toNatClampNeg) (Fl x0.toNatClampNeg) 0 (w, Pw, nx0, un) (Fl x0.toNatClampNeg)).2.1 else rf) qc fc lf (if isI x0 fc then (rn (FB x0.toNatClampNeg) (Fl x0.toNatClampNeg) 0 (w, Pw, nx0, un) (Fl x0.toNatClampNeg)).2.1 else lt) vc len T Fl FB Po Vl VV Sh SK ps := by
  obtain ⟨gF, gq, gf, gv, gl, gT, gFl, gFB, gPo, gPn, gVl, gVV, gSz, gS⟩ := hp
  unfold GP
  by_cases c9 : isI x0 fc
  · simp only [if_pos c9]
    exact ⟨(rn_ok gF _).1, gq, gf, gv, gl, gT, gFl, gFB, gPo, (fun j hj => (gPn j hj).trans (rn_ok gF _).2.1.symm), gVl, gVV, gSz, gS⟩
  · simp only [if_neg c9]
    exact ⟨gF, gq, gf, gv, gl, gT, gFl, gFB, gPo, gPn, gVl, gVV, gSz, gS⟩
set_option maxHeartbeats 1000000 in
theorem kc_back (l : Launch) (D : va_G) (cy : Nat → ClassId) (b0 : Nat) (g : Nat → va_E) (w : WT) (Pw : Nat → WT) (nx0 : Nat) (un : Nat) (rf : Int32) (qc : Nat) (fc : Nat) (lf : Int32) (lt : Int32) (vc : Nat) (len : Nat) (T : Nat → Nat) (Fl : Nat → Nat) (FB : Nat → Nat → Nat) (Po : Nat → WT) (Vl : Nat → Nat) (VV : Nat → Nat → Nat) (Sh : Nat → Int32 × Nat) (SK : Nat → Nat → Int32) (ps : PS) (hp : GP w Pw nx0 un rf qc fc lf lt vc len T Fl FB Po Vl VV Sh SK ps) (hv : CIv (bd b0) cy g w Pw nx0 un rf qc fc lf lt vc len T Fl FB Po Vl VV Sh SK ps) (x0 : Int32) : Met l yX9_back (WS yX9_back cX9_back 2 (some .int)) (rmF 7 163) (PP [.ref (bd b0 0), .int x0] D cy (bd b0) 114 g) (QI (fun r g1 => (r = if isI x0 fc then dnF (rn (FB x0.toNatClampNeg) (Fl x0.toNatClampNeg) 1 (w, Pw, nx0, un) (Fl x0.toNatClampNeg)) else -1) ∧ CIv (bd b0) cy g1 (if isI x0 fc then (rn (FB x0.toNatClampNeg) (Fl x0.toNatClampNeg) 1 (w, Pw, nx0, un) (Fl x0.toNatClampNeg)).2.2.1 else w) (if isI x0 fc then (rn (FB x0.toNatClampNeg) (Fl x0.toNatClampNeg) 1 (w, Pw, nx0, un) (Fl x0.toNatClampNeg)).2.2.2.1 else Pw) (if isI x0 fc then (rn (FB x0.toNatClampNeg) (Fl x0.toNatClampNeg) 1 (w, Pw, nx0, un) (Fl x0.toNatClampNeg)).2.2.2.2.1 else nx0) (if isI x0 fc then (rn (FB x0.toNatClampNeg) (Fl x0.toNatClampNeg) 1 (w, Pw, nx0, un) (Fl x0.toNatClampNeg)).2.2.2.2.2 else un) (if isI x0 fc then (rn (FB x0.toNatClampNeg) (Fl x0.toNatClampNeg) 1 (w, Pw, nx0, un) (Fl x0.toNatClampNeg)).2.1 else rf) qc fc lf (if isI x0 fc then (rn (FB x0.toNatClampNeg) (Fl x0.toNatClampNeg) 1 (w, Pw, nx0, un) (Fl x0.toNatClampNeg)).2.1 else lt) vc len T Fl FB Po Vl VV Sh SK ps ∧ ∀ j, 114 ≤ j → g1 j = g j) D (bd b0) 114) 0 0 (AA (bd b0) 114) := by
  obtain ⟨gF, gq, gf, gv, gl, gT, gFl, gFB, gPo, gPn, gVl, gVV, gSz, gS⟩ := hp
  obtain ⟨q_gcO, q_gcF, q_gcT, q_gcQ, q_gcP, q_gcS, q_gcK, q_gcL, q_gcG, q_gcV, q_gcH, q_gcE⟩ := hv
  have O_hX := q_gcO
  obtain ⟨F_fa, F_hg, F_hgn, F_hga, F_hfa, F_hfam⟩ := id q_gcF
  obtain ⟨G_ff, G_hff, G_hfj, G_hFo, G_hFb⟩ := id q_gcG
  refine Met.QI (c_X9_back l D cy (bd b0) 114 g bd_inj (Nat.le_of_ble_eq_true rfl) qc fc lf lt vc O_hX nx0 un rf F_hg w F_hgn _ F_hga F_hfa Pw F_hfam gF.2.2.1 gF.2.2.2 gF.1 gF.2.1 _ G_hff gf G_hfj Fl G_hFo gFl FB G_hFb gFB x0) (fun r g1 q => ?_)
  obtain ⟨hr, c_1, c_2, c_3, c_4, c_5, fr⟩ := q
  exact ⟨hr, ⟨c_1, ⟨_, c_2, c_3, c_4, F_hfa, c_5⟩, (gcT_fr q_gcT (fun j a b => fr j (by omega))), (gcQ_fr q_gcQ (fun j a b => fr j (by omega))), (gcP_fr q_gcP (fr _ (by omega)) (fun j a b => fr j (by omega))), (gcS_fr q_gcS (fun j a b => fr j (by omega))), (gcK_fr q_gcK (fun j a b => fr j (by omega))), (gcL_fr q_gcL (fun j a b => fr j (by omega))), (gcG_fr q_gcG (fr _ (by omega)) (fun j a b => fr j (by omega))), (gcV_fr q_gcV (fr _ (by omega)) (fun j a b => fr j (by omega))), (gcH_fr q_gcH (fun j a b => fr j (by omega))), (gcE_fr q_gcE (fr _ (by omega)) (fun j a b => fr j (by omega)))⟩, fun j hj => fr j (by omega)⟩
theorem gp_back {w : WT} {Pw : Nat → WT} {nx0 : Nat} {un : Nat} {rf : Int32} {qc : Nat} {fc : Nat} {lf : Int32} {lt : Int32} {vc : Nat} {len : Nat} {T : Nat → Nat} {Fl : Nat → Nat} {FB : Nat → Nat → Nat} {Po : Nat → WT} {Vl : Nat → Nat} {VV : Nat → Nat → Nat} {Sh : Nat → Int32 × Nat} {SK : Nat → Nat → Int32} {ps : PS} (hp : GP w Pw nx0 un rf qc fc lf lt vc len T Fl FB Po Vl VV Sh SK ps) (x0 : Int32) : GP (if isI x0 fc then (rn (FB x0.toNatClampNeg) (Fl x0.toNatClampNeg) 1 (w, Pw, nx0, un) (Fl x0.toNatClampNeg)).2.2.1 else w) (if isI x0 fc then (rn (FB x0.toNatClampNeg) (Fl x0.toNatClampNeg) 1 (w, Pw, nx0, un) (Fl x0.toNatClampNeg)).2.2.2.1 else Pw) (if isI x0 fc then (rn (FB x0.toNatClampNeg) (Fl x0.toNatClampNeg) 1 (w, Pw, nx0, un) (Fl x0.toNatClampNeg)).2.2.2.2.1 else nx0) (if isI x0 fc then (rn (FB x0.toNatClampNeg) (Fl x0.toNatClampNeg) 1 (w, Pw, nx0, un) (Fl x0.toNatClampNeg)).2.2.2.2.2 else un) (if isI x0 fc then (rn (FB x0.toNatClampNeg) (Fl x0.toNatClampNeg) 1 (w, Pw, nx0, un) (Fl x0.toNatClampNeg)).2.1 else rf) qc fc lf (if isI x0 fc then (rn (FB x0.toNatClampNeg) (Fl x0.toNatClampNeg) 1 (w, Pw, nx0, un) (Fl x0.toNatClampNeg)).2.1 else lt) vc len T Fl FB Po Vl VV Sh SK ps := by
  obtain ⟨gF, gq, gf, gv, gl, gT, gFl, gFB, gPo, gPn, gVl, gVV, gSz, gS⟩ := hp
  unfold GP
  by_cases c9 : isI x0 fc
  · simp only [if_pos c9]
    exact ⟨(rn_ok gF _).1, gq, gf, gv, gl, gT, gFl, gFB, gPo, (fun j hj => (gPn j hj).trans (rn_ok gF _).2.1.symm), gVl, gVV, gSz, gS⟩
  · simp only [if_neg c9]
    exact ⟨gF, gq, gf, gv, gl, gT, gFl, gFB, gPo, gPn, gVl, gVV, gSz, gS⟩
set_option maxHeartbeats 1000000 in
theorem kc_village (l : Launch) (D : va_G) (cy : Nat → ClassId) (b0 : Nat) (g : Nat → va_E) (w : WT) (Pw : Nat → WT) (nx0 : Nat) (un : Nat) (rf : Int32) (qc : Nat) (fc : Nat) (lf : Int32) (lt : Int32) (vc : Nat) (len : Nat) (T : Nat → Nat) (Fl : Nat → Nat) (FB : Nat → Nat → Nat) (Po : Nat → WT) (Vl : Nat → Nat) (VV : Nat → Nat → Nat) (Sh : Nat → Int32 × Nat) (SK : Nat → Nat → Int32) (ps : PS) (hp : GP w Pw nx0 un rf qc fc lf lt vc len T Fl FB Po Vl VV Sh SK ps) (hv : CIv (bd b0) cy g w Pw nx0 un rf qc fc lf lt vc len T Fl FB Po Vl VV Sh SK ps) : Met l yX9_village (WS yX9_village cX9_village 1 (some .int)) (rmF 0 0) (PP [.ref (bd b0 0)] D cy (bd b0) 114 g) (QI (fun r g1 => (r = if vc < 4 then nI vc else -3) ∧ CIv (bd b0) cy g1 w Pw nx0 un rf qc fc lf lt (if vc < 4 then vc + 1 else vc) len T Fl FB Po Vl VV Sh SK ps ∧ ∀ j, 114 ≤ j → g1 j = g j) D (bd b0) 114) 0 0 (AA (bd b0) 114) := by
  obtain ⟨gF, gq, gf, gv, gl, gT, gFl, gFB, gPo, gPn, gVl, gVV, gSz, gS⟩ := hp
  obtain ⟨q_gcO, q_gcF, q_gcT, q_gcQ, q_gcP, q_gcS, q_gcK, q_gcL, q_gcG, q_gcV, q_gcH, q_gcE⟩ := hv
  have O_hX := q_gcO
  obtain ⟨V_vf, V_hvf, V_hvj, V_hVo, V_hVb⟩ := id q_gcV
  refine Met.QI (c_X9_village l D cy (bd b0) 114 g bd_inj (Nat.le_of_ble_eq_true rfl) qc fc lf lt vc O_hX _ V_hvf gv) (fun r g1 q => ?_)
  obtain ⟨hr, c_1, fr⟩ := q
  exact ⟨hr, ⟨c_1, (gcF_fr q_gcF (fun j a b => fr j (by omega))), (gcT_fr q_gcT (fun j a b => fr j (by omega))), (gcQ_fr q_gcQ (fun j a b => fr j (by omega))), (gcP_fr q_gcP (fr _ (by omega)) (fun j a b => fr j (by omega))), (gcS_fr q_gcS (fun j a b => fr j (by omega))), (gcK_fr q_gcK (fun j a b => fr j (by omega))), (gcL_fr q_gcL (fun j a b => fr j (by omega))), (gcG_fr q_gcG (fr _ (by omega)) (fun j a b => fr j (by omega))), (gcV_fr q_gcV (fr _ (by omega)) (fun j a b => fr j (by omega))), (gcH_fr q_gcH (fun j a b => fr j (by omega))), (gcE_fr q_gcE (fr _ (by omega)) (fun j a b => fr j (by omega)))⟩, fun j hj => fr j (by omega)⟩
theorem gp_village {w : WT} {Pw : Nat → WT} {nx0 : Nat} {un : Nat} {rf : Int32} {qc : Nat} {fc : Nat} {lf : Int32} {lt : Int32} {vc : Nat} {len : Nat} {T : Nat → Nat} {Fl : Nat → Nat} {FB : Nat → Nat → Nat} {Po : Nat → WT} {Vl : Nat → Nat} {VV : Nat → Nat → Nat} {Sh : Nat → Int32 × Nat} {SK : Nat → Nat → Int32} {ps : PS} (hp : GP w Pw nx0 un rf qc fc lf lt vc len T Fl FB Po Vl VV Sh SK ps) : GP w Pw nx0 un rf qc fc lf lt (if vc < 4 then vc + 1 else vc) len T Fl FB Po Vl VV Sh SK ps := by
  obtain ⟨gF, gq, gf, gv, gl, gT, gFl, gFB, gPo, gPn, gVl, gVV, gSz, gS⟩ := hp
  unfold GP
  by_cases c9 : vc < 4
  · simp only [if_pos c9]
    exact ⟨gF, gq, gf, c9, gl, gT, gFl, gFB, gPo, gPn, gVl, gVV, gSz, gS⟩
  · simp only [if_neg c9]
    exact ⟨gF, gq, gf, gv, gl, gT, gFl, gFB, gPo, gPn, gVl, gVV, gSz, gS⟩
set_option maxHeartbeats 1000000 in
theorem kc_add (l : Launch) (D : va_G) (cy : Nat → ClassId) (b0 : Nat) (g : Nat → va_E) (w : WT) (Pw : Nat → WT) (nx0 : Nat) (un : Nat) (rf : Int32) (qc : Nat) (fc : Nat) (lf : Int32) (lt : Int32) (vc : Nat) (len : Nat) (T : Nat → Nat) (Fl : Nat → Nat) (FB : Nat → Nat → Nat) (Po : Nat → WT) (Vl : Nat → Nat) (VV : Nat → Nat → Nat) (Sh : Nat → Int32 × Nat) (SK : Nat → Nat → Int32) (ps : PS) (hp : GP w Pw nx0 un rf qc fc lf lt vc len T Fl FB Po Vl VV Sh SK ps) (hv : CIv (bd b0) cy g w Pw nx0 un rf qc fc lf lt vc len T Fl FB Po Vl VV Sh SK ps) (x0 : Int32) (y0 : Int32) : Met l yX9_add (WS yX9_add cX9_add 3 (some .int)) (rmF 1 21) (PP [.ref (bd b0 0), .int x0, .int y0] D cy (bd b0) 114 g) (QI (fun r g1 => (r = if (isI x0 vc ∧ isI y0 fc) then (if Vl x0.toNatClampNeg < 16 then nI (Vl x0.toNatClampNeg + 1) else -3) else -1) ∧ CIv (bd b0) cy g1 w Pw nx0 un rf qc fc lf lt vc len T Fl FB Po (if (isI x0 vc ∧ isI y0 fc) then va_up Vl x0.toNatClampNeg (apVL (Vl x0.toNatClampNeg)) else Vl) (if (isI x0 vc ∧ isI y0 fc) then va_up VV x0.toNatClampNeg (apV (VV x0.toNatClampNeg) (Vl x0.toNatClampNeg) y0.toNatClampNeg) else VV) Sh SK ps ∧ ∀ j, 114 ≤ j → g1 j = g j) D (bd b0) 114) 0 0 (AA (bd b0) 114) := by
  obtain ⟨gF, gq, gf, gv, gl, gT, gFl, gFB, gPo, gPn, gVl, gVV, gSz, gS⟩ := hp
  obtain ⟨q_gcO, q_gcF, q_gcT, q_gcQ, q_gcP, q_gcS, q_gcK, q_gcL, q_gcG, q_gcV, q_gcH, q_gcE⟩ := hv
  have O_hX := q_gcO
  obtain ⟨G_ff, G_hff, G_hfj, G_hFo, G_hFb⟩ := id q_gcG
  obtain ⟨V_vf, V_hvf, V_hvj, V_hVo, V_hVb⟩ := id q_gcV
  refine Met.QI (c_X9_add l D cy (bd b0) 114 g bd_inj (Nat.le_of_ble_eq_true rfl) qc fc lf lt vc O_hX _ V_hvf gv V_hvj Vl VV V_hVo V_hVb gVl gVV _ G_hff gf x0 y0) (fun r g1 q => ?_)
  obtain ⟨hr, c_1, c_2, fr⟩ := q
  exact ⟨hr, ⟨(gcO_fr q_gcO (fun j a b => fr j (by omega))), (gcF_fr q_gcF (fun j a b => fr j (by omega))), (gcT_fr q_gcT (fun j a b => fr j (by omega))), (gcQ_fr q_gcQ (fun j a b => fr j (by omega))), (gcP_fr q_gcP (fr _ (by omega)) (fun j a b => fr j (by omega))), (gcS_fr q_gcS (fun j a b => fr j (by omega))), (gcK_fr q_gcK (fun j a b => fr j (by omega))), (gcL_fr q_gcL (fun j a b => fr j (by omega))), (gcG_fr q_gcG (fr _ (by omega)) (fun j a b => fr j (by omega))), ⟨_, ((fr _ (by omega)).trans V_hvf), V_hvj, c_1, c_2⟩, (gcH_fr q_gcH (fun j a b => fr j (by omega))), (gcE_fr q_gcE (fr _ (by omega)) (fun j a b => fr j (by omega)))⟩, fun j hj => fr j (by omega)⟩
theorem gp_add {w : WT} {Pw : Nat → WT} {nx0 : Nat} {un : Nat} {rf : Int32} {qc : Nat} {fc : Nat} {lf : Int32} {lt : Int32} {vc : Nat} {len : Nat} {T : Nat → Nat} {Fl : Nat → Nat} {FB : Nat → Nat → Nat} {Po : Nat → WT} {Vl : Nat → Nat} {VV : Nat → Nat → Nat} {Sh : Nat → Int32 × Nat} {SK : Nat → Nat → Int32} {ps : PS} (hp : GP w Pw nx0 un rf qc fc lf lt vc len T Fl FB Po Vl VV Sh SK ps) (x0 y0 : Int32) : GP w Pw nx0 un rf qc fc lf lt vc len T Fl FB Po (if (isI x0 vc ∧ isI y0 fc) then va_up Vl x0.toNatClampNeg (apVL (Vl x0.toNatClampNeg)) else Vl) (if (isI x0 vc ∧ isI y0 fc) then va_up VV x0.toNatClampNeg (apV (VV x0.toNatClampNeg) (Vl x0.toNatClampNeg) y0.toNatClampNeg) else VV) Sh SK ps := by
  obtain ⟨gF, gq, gf, gv, gl, gT, gFl, gFB, gPo, gPn, gVl, gVV, gSz, gS⟩ := hp
  unfold GP
  by_cases c9 : isI x0 vc ∧ isI y0 fc
  · simp only [if_pos c9]
    exact ⟨gF, gq, gf, gv, gl, gT, gFl, gFB, gPo, gPn, (fun j => by
      by_cases e : j = x0.toNatClampNeg
      · subst e; rw [va_up_self]; have := gVl x0.toNatClampNeg; unfold apVL; split <;> omega
      · rw [va_up_ne _ _ e]; exact gVl j), (fun j => by
      by_cases e : j = x0.toNatClampNeg
      · subst e; rw [va_up_self]; exact apV_lt (gVV _) (Nat.lt_of_lt_of_le (isI_lt (by omega) c9.2) gf)
      · rw [va_up_ne _ _ e]; exact gVV j), gSz, gS⟩
  · simp only [if_neg c9]
    exact ⟨gF, gq, gf, gv, gl, gT, gFl, gFB, gPo, gPn, gVl, gVV, gSz, gS⟩
set_option maxHeartbeats 1000000 in
theorem kc_danceOf (l : Launch) (D : va_G) (cy : Nat → ClassId) (b0 : Nat) (g : Nat → va_E) (w : WT) (Pw : Nat → WT) (nx0 : Nat) (un : Nat) (rf : Int32) (qc : Nat) (fc : Nat) (lf : Int32) (lt : Int32) (vc : Nat) (len : Nat) (T : Nat → Nat) (Fl : Nat → Nat) (FB : Nat → Nat → Nat) (Po : Nat → WT) (Vl : Nat → Nat) (VV : Nat → Nat → Nat) (Sh : Nat → Int32 × Nat) (SK : Nat → Nat → Int32) (ps : PS) (hp : GP w Pw nx0 un rf qc fc lf lt vc len T Fl FB Po Vl VV Sh SK ps) (hv : CIv (bd b0) cy g w Pw nx0 un rf qc fc lf lt vc len T Fl FB Po Vl VV Sh SK ps) (x0 : Int32) (what : Int32) : Met l yX9_danceOf (WS yX9_danceOf cX9_danceOf 4 (some .int)) (rmF 2 45) (PP [.ref (bd b0 0), .int x0, .int what] D cy (bd b0) 114 g) (vp_Si (fun r => r = dnA Vl VV Fl fc vc x0 what)) 0 0 (fun _ => False) := by
  obtain ⟨gF, gq, gf, gv, gl, gT, gFl, gFB, gPo, gPn, gVl, gVV, gSz, gS⟩ := hp
  obtain ⟨q_gcO, q_gcF, q_gcT, q_gcQ, q_gcP, q_gcS, q_gcK, q_gcL, q_gcG, q_gcV, q_gcH, q_gcE⟩ := hv
  have O_hX := q_gcO
  obtain ⟨G_ff, G_hff, G_hfj, G_hFo, G_hFb⟩ := id q_gcG
  obtain ⟨V_vf, V_hvf, V_hvj, V_hVo, V_hVb⟩ := id q_gcV
  exact c_X9_danceOf l D cy (bd b0) 114 g (Nat.le_of_ble_eq_true rfl) qc fc lf lt vc O_hX _ V_hvf gv V_hvj Vl VV V_hVo V_hVb gVl gVV _ G_hff gf G_hfj Fl G_hFo gFl x0 what
set_option maxHeartbeats 1000000 in
theorem kc_shared (l : Launch) (D : va_G) (cy : Nat → ClassId) (b0 : Nat) (g : Nat → va_E) (w : WT) (Pw : Nat → WT) (nx0 : Nat) (un : Nat) (rf : Int32) (qc : Nat) (fc : Nat) (lf : Int32) (lt : Int32) (vc : Nat) (len : Nat) (T : Nat → Nat) (Fl : Nat → Nat) (FB : Nat → Nat → Nat) (Po : Nat → WT) (Vl : Nat → Nat) (VV : Nat → Nat → Nat) (Sh : Nat → Int32 × Nat) (SK : Nat → Nat → Int32) (ps : PS) (hp : GP w Pw nx0 un rf qc fc lf lt vc len T Fl FB Po Vl VV Sh SK ps) (hv : CIv (bd b0) cy g w Pw nx0 un rf qc fc lf lt vc len T Fl FB Po Vl VV Sh SK ps) (x0 : Int32) (y0 : Int32) (z0 : Int32) : Met l yX9_shared (WS yX9_shared cX9_shared 4 (some .int)) (rmF 4 98) (PP [.ref (bd b0 0), .int x0, .int y0, .int z0] D cy (bd b0) 114 g) (QI (fun r g1 => (r = if (isI x0 vc ∧ isI y0 vc ∧ (¬ z0 < 0 ∨ z0 = -4)) then (if z0 = -4 then nI (lc (VV x0.toNatClampNeg) (VV y0.toNatClampNeg) (Vl x0.toNatClampNeg) (Vl y0.toNatClampNeg) 0 0) else if z0 < nI (lc (VV x0.toNatClampNeg) (VV y0.toNatClampNeg) (Vl x0.toNatClampNeg) (Vl y0.toNatClampNeg) 0 0) then nI (sfg (VV x0.toNatClampNeg) (VV y0.toNatClampNeg) (Vl x0.toNatClampNeg) (Vl y0.toNatClampNeg) z0.toNatClampNeg) else -4) else -1) ∧ CIv (bd b0) cy g1 w Pw nx0 un rf qc fc lf lt vc len T Fl FB Po Vl VV Sh SK ps ∧ ∀ j, 114 ≤ j → g1 j = g j) D (bd b0) 114) 0 0 (AA (bd b0) 114) := by
  obtain ⟨gF, gq, gf, gv, gl, gT, gFl, gFB, gPo, gPn, gVl, gVV, gSz, gS⟩ := hp
  obtain ⟨q_gcO, q_gcF, q_gcT, q_gcQ, q_gcP, q_gcS, q_gcK, q_gcL, q_gcG, q_gcV, q_gcH, q_gcE⟩ := hv
  have O_hX := q_gcO
  obtain ⟨V_vf, V_hvf, V_hvj, V_hVo, V_hVb⟩ := id q_gcV
  obtain ⟨H_rfn, H_Lm, H_r0, H_R0, H_hg, H_hgo, H_hrf, H_hLm, H_hLmb, H_hvr, H_hvvr, H_hR8, H_hr016⟩ := id q_gcH
  refine Met.QI (c_X9_shared l D cy (bd b0) 114 g bd_inj (Nat.le_of_ble_eq_true rfl) qc fc lf lt vc O_hX _ V_hvf gv V_hvj Vl VV V_hVo V_hVb gVl gVV H_hg _ H_hgo H_hrf _ H_hLm H_hLmb _ _ H_hvr H_hvvr H_hR8 H_hr016 x0 y0 z0) (fun r g1 q => ?_)
  by_cases c9 : isI x0 vc ∧ isI y0 vc ∧ (¬ z0 < 0 ∨ z0 = -4)
  · simp only [if_pos c9] at q ⊢
    obtain ⟨Lr, hr, s_1, c_2, c_3, c_4, fr⟩ := q
    exact ⟨hr.trans (shR (Nat.le_trans lc_n (gVl _)) c9.2.2), ⟨(gcO_fr q_gcO (fun j a b => fr j (by omega))), (gcF_fr q_gcF (fun j a b => fr j (by omega))), (gcT_fr q_gcT (fun j a b => fr j (by omega))), (gcQ_fr q_gcQ (fun j a b => fr j (by omega))), (gcP_fr q_gcP (fr _ (by omega)) (fun j a b => fr j (by omega))), (gcS_fr q_gcS (fun j a b => fr j (by omega))), (gcK_fr q_gcK (fun j a b => fr j (by omega))), (gcL_fr q_gcL (fun j a b => fr j (by omega))), (gcG_fr q_gcG (fr _ (by omega)) (fun j a b => fr j (by omega))), (gcV_fr q_gcV (fr _ (by omega)) (fun j a b => fr j (by omega))), ⟨_, _, _, _, ((fr _ (by omega)).trans H_hg), ((fr _ (by omega)).trans H_hgo), H_hrf, c_4, s_1, c_2, c_3, sRw_8 (gVV _) H_hR8 (Nat.le_refl _), Nat.le_trans lc_n (gVl _)⟩, (gcE_fr q_gcE (fr _ (by omega)) (fun j a b => fr j (by omega)))⟩, fun j hj => fr j (by omega)⟩
  · simp only [if_neg c9] at q ⊢
    obtain ⟨Lr, hr, s_1, c_2, c_3, c_4, fr⟩ := q
    exact ⟨hr, ⟨(gcO_fr q_gcO (fun j a b => fr j (by omega))), (gcF_fr q_gcF (fun j a b => fr j (by omega))), (gcT_fr q_gcT (fun j a b => fr j (by omega))), (gcQ_fr q_gcQ (fun j a b => fr j (by omega))), (gcP_fr q_gcP (fr _ (by omega)) (fun j a b => fr j (by omega))), (gcS_fr q_gcS (fun j a b => fr j (by omega))), (gcK_fr q_gcK (fun j a b => fr j (by omega))), (gcL_fr q_gcL (fun j a b => fr j (by omega))), (gcG_fr q_gcG (fr _ (by omega)) (fun j a b => fr j (by omega))), (gcV_fr q_gcV (fr _ (by omega)) (fun j a b => fr j (by omega))), ⟨_, _, _, _, ((fr _ (by omega)).trans H_hg), ((fr _ (by omega)).trans H_hgo), H_hrf, c_4, s_1, c_2, c_3, H_hR8, H_hr016⟩, (gcE_fr q_gcE (fr _ (by omega)) (fun j a b => fr j (by omega)))⟩, fun j hj => fr j (by omega)⟩
set_option maxHeartbeats 1000000 in
theorem kc_perform (l : Launch) (D : va_G) (cy : Nat → ClassId) (b0 : Nat) (g : Nat → va_E) (w : WT) (Pw : Nat → WT) (nx0 : Nat) (un : Nat) (rf : Int32) (qc : Nat) (fc : Nat) (lf : Int32) (lt : Int32) (vc : Nat) (len : Nat) (T : Nat → Nat) (Fl : Nat → Nat) (FB : Nat → Nat → Nat) (Po : Nat → WT) (Vl : Nat → Nat) (VV : Nat → Nat → Nat) (Sh : Nat → Int32 × Nat) (SK : Nat → Nat → Int32) (ps : PS) (hp : GP w Pw nx0 un rf qc fc lf lt vc len T Fl FB Po Vl VV Sh SK ps) (hv : CIv (bd b0) cy g w Pw nx0 un rf qc fc lf lt vc len T Fl FB Po Vl VV Sh SK ps) (x0 : Int32) : Met l yX9_perform (WS yX9_perform cX9_perform 5 (some .int)) (rmF 7 163) (PP [.ref (bd b0 0), .int x0] D cy (bd b0) 114 g) (QI (fun r g1 => (r = (if isI x0 vc then pfA FB Fl fc (VV x0.toNatClampNeg) (Vl x0.toNatClampNeg) (Vl x0.toNatClampNeg) ((w, Pw, nx0, un), rf, lt) 0 else (-1, (w, Pw, nx0, un), rf, lt)).1) ∧ CIv (bd b0) cy g1 ((if isI x0 vc then pfA FB Fl fc (VV x0.toNatClampNeg) (Vl x0.toNatClampNeg) (Vl x0.toNatClampNeg) ((w, Pw, nx0, un), rf, lt) 0 else (-1, (w, Pw, nx0, un), rf, lt)).2.1.1) ((if isI x0 vc then pfA FB Fl fc (VV x0.toNatClampNeg) (Vl x0.toNatClampNeg) (Vl x0.toNatClampNeg) ((w, Pw, nx0, un), rf, lt) 0 else (-1, (w, Pw, nx0, un), rf, lt)).2.1.2.1) ((if isI x0 vc then pfA FB Fl fc (VV x0.toNatClampNeg) (Vl x0.toNatClampNeg) (Vl x0.toNatClampNeg) ((w, Pw, nx0, un), rf, lt) 0 else (-1, (w, Pw, nx0, un), rf, lt)).2.1.2.2.1) ((if isI x0 vc then pfA FB Fl fc (VV x0.toNatClampNeg) (Vl x0.toNatClampNeg) (Vl x0.toNatClampNeg) ((w, Pw, nx0, un), rf, lt) 0 else (-1, (w, Pw, nx0, un), rf, lt)).2.1.2.2.2) ((if isI x0 vc then pfA FB Fl fc (VV x0.toNatClampNeg) (Vl x0.toNatClampNeg) (Vl x0.toNatClampNeg) ((w, Pw, nx0, un), rf, lt) 0 else (-1, (w, Pw, nx0, un), rf, lt)).2.2.1) qc fc lf ((if isI x0 vc then pfA FB Fl fc (VV x0.toNatClampNeg) (Vl x0.toNatClampNeg) (Vl x0.toNatClampNeg) ((w, Pw, nx0, un), rf, lt) 0 else (-1, (w, Pw, nx0, un), rf, lt)).2.2.2) vc len T Fl FB Po Vl VV Sh SK ps ∧ ∀ j, 114 ≤ j → g1 j = g j) D (bd b0) 114) 0 0 (AA (bd b0) 114) := by
  obtain ⟨gF, gq, gf, gv, gl, gT, gFl, gFB, gPo, gPn, gVl, gVV, gSz, gS⟩ := hp
  obtain ⟨q_gcO, q_gcF, q_gcT, q_gcQ, q_gcP, q_gcS, q_gcK, q_gcL, q_gcG, q_gcV, q_gcH, q_gcE⟩ := hv
  have O_hX := q_gcO
  obtain ⟨F_fa, F_hg, F_hgn, F_hga, F_hfa, F_hfam⟩ := id q_gcF
  obtain ⟨G_ff, G_hff, G_hfj, G_hFo, G_hFb⟩ := id q_gcG
  obtain ⟨V_vf, V_hvf, V_hvj, V_hVo, V_hVb⟩ := id q_gcV
  refine Met.QI (c_X9_perform l D cy (bd b0) 114 g bd_inj (Nat.le_of_ble_eq_true rfl) qc fc lf lt vc O_hX nx0 un rf F_hg w F_hgn _ F_hga F_hfa Pw F_hfam gF.2.2.1 gF.2.2.2 gF.1 gF.2.1 _ V_hvf gv V_hvj Vl VV V_hVo V_hVb gVl gVV _ G_hff gf G_hfj Fl G_hFo gFl FB G_hFb gFB x0) (fun r g1 q => ?_)
  obtain ⟨hr, c_1, c_2, c_3, c_4, c_5, fr⟩ := q
  exact ⟨hr, ⟨c_1, ⟨_, c_2, c_3, c_4, F_hfa, c_5⟩, (gcT_fr q_gcT (fun j a b => fr j (by omega))), (gcQ_fr q_gcQ (fun j a b => fr j (by omega))), (gcP_fr q_gcP (fr _ (by omega)) (fun j a b => fr j (by omega))), (gcS_fr q_gcS (fun j a b => fr j (by omega))), (gcK_fr q_gcK (fun j a b => fr j (by omega))), (gcL_fr q_gcL (fun j a b => fr j (by omega))), (gcG_fr q_gcG (fr _ (by omega)) (fun j a b => fr j (by omega))), (gcV_fr q_gcV (fr _ (by omega)) (fun j a b => fr j (by omega))), (gcH_fr q_gcH (fun j a b => fr j (by omega))), (gcE_fr q_gcE (fr _ (by omega)) (fun j a b => fr j (by omega)))⟩, fun j hj => fr j (by omega)⟩
theorem gp_perform {w : WT} {Pw : Nat → WT} {nx0 : Nat} {un : Nat} {rf : Int32} {qc : Nat} {fc : Nat} {lf : Int32} {lt : Int32} {vc : Nat} {len : Nat} {T : Nat → Nat} {Fl : Nat → Nat} {FB : Nat → Nat → Nat} {Po : Nat → WT} {Vl : Nat → Nat} {VV : Nat → Nat → Nat} {Sh : Nat → Int32 × Nat} {SK : Nat → Nat → Int32} {ps : PS} (hp : GP w Pw nx0 un rf qc fc lf lt vc len T Fl FB Po Vl VV Sh SK ps) (x0 : Int32) : GP ((if isI x0 vc then pfA FB Fl fc (VV x0.toNatClampNeg) (Vl x0.toNatClampNeg) (Vl x0.toNatClampNeg) ((w, Pw, nx0, un), rf, lt) 0 else (-1, (w, Pw, nx0, un), rf, lt)).2.1.1) ((if isI x0 vc then pfA FB Fl fc (VV x0.toNatClampNeg) (Vl x0.toNatClampNeg) (Vl x0.toNatClampNeg) ((w, Pw, nx0, un), rf, lt) 0 else (-1, (w, Pw, nx0, un), rf, lt)).2.1.2.1) ((if isI x0 vc then pfA FB Fl fc (VV x0.toNatClampNeg) (Vl x0.toNatClampNeg) (Vl x0.toNatClampNeg) ((w, Pw, nx0, un), rf, lt) 0 else (-1, (w, Pw, nx0, un), rf, lt)).2.1.2.2.1) ((if isI x0 vc then pfA FB Fl fc (VV x0.toNatClampNeg) (Vl x0.toNatClampNeg) (Vl x0.toNatClampNeg) ((w, Pw, nx0, un), rf, lt) 0 else (-1, (w, Pw, nx0, un), rf, lt)).2.1.2.2.2) ((if isI x0 vc then pfA FB Fl fc (VV x0.toNatClampNeg) (Vl x0.toNatClampNeg) (Vl x0.toNatClampNeg) ((w, Pw, nx0, un), rf, lt) 0 else (-1, (w, Pw, nx0, un), rf, lt)).2.2.1) qc fc lf ((if isI x0 vc then pfA FB Fl fc (VV x0.toNatClampNeg) (Vl x0.toNatClampNeg) (Vl x0.toNatClampNeg) ((w, Pw, nx0, un), rf, lt) 0 else (-1, (w, Pw, nx0, un), rf, lt)).2.2.2) vc len T Fl FB Po Vl VV Sh SK ps := by
  obtain ⟨gF, gq, gf, gv, gl, gT, gFl, gFB, gPo, gPn, gVl, gVV, gSz, gS⟩ := hp
  exact ⟨(pfW _ gF).1, gq, gf, gv, gl, gT, gFl, gFB, gPo, (fun j hj => (gPn j hj).trans (pfW _ gF).2.symm), gVl, gVV, gSz, gS⟩
set_option maxHeartbeats 1000000 in
theorem kc_figure (l : Launch) (D : va_G) (cy : Nat → ClassId) (b0 : Nat) (g : Nat → va_E) (w : WT) (Pw : Nat → WT) (nx0 : Nat) (un : Nat) (rf : Int32) (qc : Nat) (fc : Nat) (lf : Int32) (lt : Int32) (vc : Nat) (len : Nat) (T : Nat → Nat) (Fl : Nat → Nat) (FB : Nat → Nat → Nat) (Po : Nat → WT) (Vl : Nat → Nat) (VV : Nat → Nat → Nat) (Sh : Nat → Int32 × Nat) (SK : Nat → Nat → Int32) (ps : PS) (sq sv : Nat) (hp : GP w Pw nx0 un rf qc fc lf lt vc len T Fl FB Po Vl VV Sh SK ps) (hv : CIv (bd b0) cy g w Pw nx0 un rf qc fc lf lt vc len T Fl FB Po Vl VV Sh SK ps) : Met l yX9_figure (WS yX9_figure cX9_figure 1 (some .int)) (rmF 6 136) (PPX [.ref (bd b0 0)] D cy (bd b0) 114 g sq sv) (QI (fun r g1 => ∃ (ps2 : PS), POK ps2 ∧ (r = if fc < 8 then (if tkF (tkR Fl FB fc T len (beP ps) 161) = 0 then nI fc else -10 - nI (tkP (tkR Fl FB fc T len (beP ps) 161))) else -3) ∧ CIv (bd b0) cy g1 w Pw nx0 un rf qc (if fc < 8 ∧ tkF (tkR Fl FB fc T len (beP ps) 161) = 0 then fc + 1 else fc) (if fc < 8 then nI (tkF (tkR Fl FB fc T len (beP ps) 161)) else lf) lt vc (if fc < 8 then 0 else len) T (if fc < 8 ∧ tkF (tkR Fl FB fc T len (beP ps) 161) = 0 then va_up Fl fc (pLen (tkR Fl FB fc T len (beP ps) 161).2.1) else Fl) (if fc < 8 ∧ tkF (tkR Fl FB fc T len (beP ps) 161) = 0 then va_up FB fc (cpB (pB (tkR Fl FB fc T len (beP ps) 161).2.1) (FB fc)) else FB) Po Vl VV Sh SK (ps2) ∧ ∀ j, 114 ≤ j → g1 j = g j) D (bd b0) 114) 0 0 (AA (bd b0) 114) := by
  obtain ⟨gF, gq, gf, gv, gl, gT, gFl, gFB, gPo, gPn, gVl, gVV, gSz, gS⟩ := hp
  obtain ⟨q_gcO, q_gcF, q_gcT, q_gcQ, q_gcP, q_gcS, q_gcK, q_gcL, q_gcG, q_gcV, q_gcH, q_gcE⟩ := hv
  have O_hX := q_gcO
  obtain ⟨K_rd, K_kd, K_pl0, K_vl, K_hg, K_hgt⟩ := id q_gcK
  obtain ⟨L_ft, L_fp, L_hg, L_hgd, L_hgb, L_hgs, L_hgt⟩ := id q_gcL
  obtain ⟨G_ff, G_hff, G_hfj, G_hFo, G_hFb⟩ := id q_gcG
  refine Met.QI (c_X9_figure l D cy (bd b0) 114 g bd_inj sq sv (Nat.le_of_ble_eq_true rfl) qc fc lf lt vc O_hX (tkR Fl FB fc T len (beP ps) 161) ps _ _ L_hg L_hgd L_hgb L_hgs L_hgt gS _ _ _ _ _ T K_hg K_hgt gl gT _ G_hff G_hfj Fl FB G_hFo G_hFb gFl gFB gf (fun _ => rfl)) (fun r g1 q => ?_)
  obtain ⟨ps2, ft2, fp2, trd2, kd2, tpl2, tvl2, hr, s_1, c_2, c_3, c_4, c_5, c_6, c_7, c_8, c_9, c_10, fr⟩ := q
  exact ⟨ps2, s_1, hr, ⟨c_2, (gcF_fr q_gcF (fun j a b => fr j (by omega) (by omega) (by omega) (by omega))), (gcT_fr q_gcT (fun j a b => fr j (by omega) (by omega) (by omega) (by omega))), (gcQ_fr q_gcQ (fun j a b => fr j (by omega) (by omega) (by omega) (by omega))), (gcP_fr q_gcP (fr _ (by omega) (by omega) (by omega) (by omega)) (fun j a b => fr j (by omega) (by omega) (by omega) (by omega))), (gcS_fr q_gcS (fun j a b => fr j (by omega) (by omega) (by omega) (by omega))), ⟨_, _, _, _, c_8, ((fr _ (by omega) (by omega) (by omega) (by omega)).trans K_hgt)⟩, ⟨_, _, c_3, c_4, c_5, c_6, c_7⟩, ⟨_, ((fr _ (by omega) (by omega) (by omega) (by omega)).trans G_hff), G_hfj, c_9, c_10⟩, (gcV_fr q_gcV (fr _ (by omega) (by omega) (by omega) (by omega)) (fun j a b => fr j (by omega) (by omega) (by omega) (by omega))), (gcH_fr q_gcH (fun j a b => fr j (by omega) (by omega) (by omega) (by omega))), (gcE_fr q_gcE (fr _ (by omega) (by omega) (by omega) (by omega)) (fun j a b => fr j (by omega) (by omega) (by omega) (by omega)))⟩, fun j hj => fr j (by omega) (by omega) (by omega) (by omega)⟩
theorem figL {Fl T : Nat → Nat} {FB : Nat → Nat → Nat} {fc len : Nat} {ps : PS} (gS : POK ps) (gFB : ∀ j i, FB j i < 64) (gf : fc ≤ 8) (gT : ∀ i, T i < 256) : POK (tkR Fl FB fc T len (beP ps) 161).2.1 := tkR_ok (beP_ok gS) gFB gf gT 161
theorem gp_figure {w : WT} {Pw : Nat → WT} {nx0 : Nat} {un : Nat} {rf : Int32} {qc : Nat} {fc : Nat} {lf : Int32} {lt : Int32} {vc : Nat} {len : Nat} {T : Nat → Nat} {Fl : Nat → Nat} {FB : Nat → Nat → Nat} {Po : Nat → WT} {Vl : Nat → Nat} {VV : Nat → Nat → Nat} {Sh : Nat → Int32 × Nat} {SK : Nat → Nat → Int32} {ps : PS} (hp : GP w Pw nx0 un rf qc fc lf lt vc len T Fl FB Po Vl VV Sh SK ps) (ps2 : PS) (h2 : POK ps2) : GP w Pw nx0 un rf qc (if fc < 8 ∧ tkF (tkR Fl FB fc T len (beP ps) 161) = 0 then fc + 1 else fc) (if fc < 8 then nI (tkF (tkR Fl FB fc T len (beP ps) 161)) else lf) lt vc (if fc < 8 then 0 else len) T (if fc < 8 ∧ tkF (tkR Fl FB fc T len (beP ps) 161) = 0 then va_up Fl fc (pLen (tkR Fl FB fc T len (beP ps) 161).2.1) else Fl) (if fc < 8 ∧ tkF (tkR Fl FB fc T len (beP ps) 161) = 0 then va_up FB fc (cpB (pB (tkR Fl FB fc T len (beP ps) 161).2.1) (FB fc)) else FB) Po Vl VV Sh SK (ps2) := by
  obtain ⟨gF, gq, gf, gv, gl, gT, gFl, gFB, gPo, gPn, gVl, gVV, gSz, gS⟩ := hp
  have hk := figL (Fl := Fl) (len := len) gS gFB gf gT
  exact ⟨gF, gq, (by split <;> omega), gv, (by split <;> omega), gT, (fun j => by
    split
    · by_cases e : j = fc
      · subst e; rw [va_up_self]; exact hk.1.1
      · rw [va_up_ne _ _ e]; exact gFl j
    · exact gFl j), (fun j => by
    split
    · by_cases e : j = fc
      · subst e; rw [va_up_self]; exact cpB_lt hk.1.2 (gFB j)
      · rw [va_up_ne _ _ e]; exact gFB j
    · exact gFB j), gPo, gPn, gVl, gVV, gSz, h2⟩
theorem bg5 : WOK (bgW 5) := bgW_ok (by decide)
theorem init_g : GP (bgW 5) (fun _ => bgW 5) (0) (0) (nI 0) (0) (0) (nI 0) (nI 0) (0) (0) (fun _ => 0) (fun _ => 0) (fun _ _ => 0) (fun _ => bgW 5) (fun _ => 0) (fun _ _ => 0) (fun _ => (-1, 0)) (fun _ _ => nI 0) ((0, fun _ => 0, fun _ => 0, fun _ => 0, 0, 0, 0, 0, 0, 0)) := ⟨⟨bg5, fun _ _ => bg5, by decide, by decide⟩, by decide, by decide, by decide, by decide, fun _ => Nat.le_of_ble_eq_true rfl, fun _ => Nat.le_of_ble_eq_true rfl, fun _ _ => Nat.le_of_ble_eq_true rfl, fun _ _ => bg5, fun _ h => absurd h (Nat.not_lt_zero _), fun _ => Nat.le_of_ble_eq_true rfl, fun _ _ => Nat.le_of_ble_eq_true rfl, fun _ => Nat.le_of_ble_eq_true rfl, ⟨⟨by decide, fun _ => Nat.le_of_ble_eq_true rfl⟩, by decide, fun _ => Nat.le_of_ble_eq_true rfl, fun _ => Nat.le_of_ble_eq_true rfl, fun _ h => absurd h (Nat.not_lt_zero _)⟩⟩
theorem init_c {b0 : Nat} {cy : Nat → ClassId} {g g1 : Nat → va_E} (h : IX9 b0 cy g g1) : CIv (bd b0) cy g1 (bgW 5) (fun _ => bgW 5) (0) (0) (nI 0) (0) (0) (nI 0) (nI 0) (0) (0) (fun _ => 0) (fun _ => 0) (fun _ _ => 0) (fun _ => bgW 5) (fun _ => 0) (fun _ _ => 0) (fun _ => (-1, 0)) (fun _ _ => nI 0) ((0, fun _ => 0, fun _ => 0, fun _ => 0, 0, 0, 0, 0, 0, 0)) := by
  obtain ⟨h0, h34, h52, h53, h75, h1, h2, h3, hF4, h17, h18, h19, hF20, h33, h35, h36, h37, h38, h39, h40, h41, h42, h43, h44, h45, h46, h47, h48, h49, h50, h51, h54, h55, h73, h74, hF56, hE76, hE82_2, hE82_2_1, hE98_2, hE98_2_1, hE106_2, hE106_2_1, hfr⟩ := h
  refine ⟨h0, ⟨pfu b0 2 13, h1, h2, h3, (fun j hj => if_pos hj), hF4⟩, ⟨0, 0, nI 0, bgW 5, pfu b0 18 13, fun _ => bgW 5, h17, h18, h19, (fun j hj => if_pos hj), hF20, by decide, by decide, bg5, fun _ _ => bg5⟩, ⟨bgW 5, h33, bg5⟩, ⟨afu b0 76 1 6, h34, fun j hj => ?_, hE76⟩, ⟨lN 0, nI 0, 0, nI 0, nI 0, fun _ => lN 0, fun _ => lN 0, fun _ => lN 0, fun _ => nI 0, fun _ => nI 0, fun _ => 0, bgW 5, bgW 5, bgW 5, h35, h36, h37, h38, h39, h40, h41, h42, bg5, h43, bg5, h44, bg5, ⟨by decide, Or.inl rfl⟩⟩, ⟨0, 0, 0, nI 0, h45, h46⟩, ⟨0, 0, h47, h48, h49, h50, h51⟩, ⟨afu b0 82 2 8, h52, (fun j hj => if_pos hj), hE82_2, hE82_2_1⟩, ⟨afu b0 98 2 4, h53, (fun j hj => if_pos hj), hE98_2, hE98_2_1⟩, ⟨mrw (bd b0 55) 17, fun _ _ => 0, 0, fun _ => 0, h54, h55, fun j hj => ?_, hF56, fun _ _ => Nat.le_of_ble_eq_true rfl, h73, h74, fun _ => Nat.le_of_ble_eq_true rfl, by decide⟩, ⟨afu b0 106 2 4, h75, (fun j hj => if_pos hj), hE106_2, hE106_2_1⟩⟩
  · unfold afu
    rw [if_pos hj, Nat.one_mul]
  · unfold mrw
    rw [if_pos hj]
    unfold bd
    exact congrArg some (by omega)

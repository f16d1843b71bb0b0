set_option maxHeartbeats 4000000 in
set_option maxRecDepth 100000 in
theorem c_X9_figure (l : Launch) (D : va_G) (cy : Nat → ClassId) (ad : Nat → Nat) (N : Nat) (g : Nat → va_E) (hinj : ∀ i j : Nat, i < N → j < N → ad i = ad j → i = j) (sq sv : Nat) (hN : 114 ≤ N) (qc : Nat) (fc : Nat) (lf : Int32) (lt : Int32) (vc : Nat) (hX : g 0 = .inr (9, [.ref (ad 1), .ref (ad 17), .ref (ad 33), .ref (ad 34), .int (nI (qc)), .ref (ad 35), .ref (ad 45), .ref (ad 47), .ref (ad 52), .int (nI (fc)), .int lf, .int lt, .ref (ad 53), .int (nI (vc)), .ref (ad 54), .ref (ad 75)])) (R9 : TS) (ps : PS) (ft : Nat) (fp : Nat) (hg : g 47 = .inr (6, [.ref (ad (47 + 1)), .ref (ad (47 + 3)), .ref (ad (47 + 4)), .int (nI (pOp ps)), .int (nI (pWt ps)), .int (nI (pLt ps)), .int (nI (pRd ps)), .int (nI (pEm ps)), .int (nI (pOv ps)), .int (nI (ft)), .int (nI (fp))])) (hgd : g (47 + 1) = .inr (0, [.ref (ad (47 + 2)), .int (nI (pLen ps))])) (hgb : g (47 + 2) = .inl (cy 0, 200, .inl (fun x9 => nI ((pB ps) x9)))) (hgs : g (47 + 3) = .inl (cy 1, 4, .inl (fun x9 => nI ((pSt ps) x9)))) (hgt : g (47 + 4) = .inl (cy 1, 4, .inl (fun x9 => nI ((pTm ps) x9)))) (hps : POK ps) (tlen : Nat) (trd : Nat) (kd0 : Nat) (tpl : Nat) (tvl : Int32) (T : Nat → Nat) (hgk : g 45 = .inr (5, [.ref (ad 46), .int (nI (tlen)), .int (nI (trd)), .int (nI (kd0)), .int (nI (tpl)), .int tvl])) (hgkt : g 46 = .inl (cy 0, 160, .inl (fun x9 => sb_b (T x9)))) (hlen : tlen ≤ 160) (hT : ∀ i, T i < 256) (ff : Nat → Option Nat) (hff : g 52 = .inl (cy 3, 8, .inr (.inr (.inr (.inr ff))))) (hfj : ∀ j, j < 8 → ff j = some (ad (82 + 2 * j))) (Fl : Nat → Nat) (FB : Nat → Nat → Nat) (hFo : (∀ j : Nat, j < 8 → g (82 + 2 * j) = .inr (0, [.ref (ad (82 + 2 * j + 1)), .int (nI (Fl j))]))) (hFb : (∀ j : Nat, j < 8 → g (82 + 2 * j + 1) = .inl (cy 0, 200, .inl (fun x9 => nI ((FB j) x9))))) (hFl : ∀ j, Fl j ≤ 200) (hFB : ∀ j i, FB j i < 64) (hfc : fc ≤ 8) (hR9 : fc < 8 → tkR Fl FB fc T tlen (beP ps) 161 = R9) : Met l yX9_figure (WS yX9_figure cX9_figure 1 (some .int)) (rmF 6 136) (PPX [.ref (ad 0)] D cy ad N g sq sv) (QI (fun r g1 => ∃ (ps2 : PS), ∃ (ft2 : Nat), ∃ (fp2 : Nat), ∃ (trd2 : Nat), ∃ (kd2 : Nat), ∃ (tpl2 : Nat), ∃ (tvl2 : Int32), (r = if fc < 8 then (if tkF R9 = 0 then nI fc else -10 - nI (tkP R9)) else -3) ∧ (POK ps2) ∧ g1 0 = .inr (9, [.ref (ad 1), .ref (ad 17), .ref (ad 33), .ref (ad 34), .int (nI (qc)), .ref (ad 35), .ref (ad 45), .ref (ad 47), .ref (ad 52), .int (nI (if fc < 8 ∧ tkF R9 = 0 then fc + 1 else fc)), .int (if fc < 8 then nI (tkF R9) else lf), .int lt, .ref (ad 53), .int (nI (vc)), .ref (ad 54), .ref (ad 75)]) ∧ g1 47 = .inr (6, [.ref (ad (47 + 1)), .ref (ad (47 + 3)), .ref (ad (47 + 4)), .int (nI (pOp ps2)), .int (nI (pWt ps2)), .int (nI (pLt ps2)), .int (nI (pRd ps2)), .int (nI (pEm ps2)), .int (nI (pOv ps2)), .int (nI (ft2)), .int (nI (fp2))]) ∧ g1 (47 + 1) = .inr (0, [.ref (ad (47 + 2)), .int (nI (pLen ps2))]) ∧ g1 (47 + 2) = .inl (cy 0, 200, .inl (fun x9 => nI ((pB ps2) x9))) ∧ g1 (47 + 3) = .inl (cy 1, 4, .inl (fun x9 => nI ((pSt ps2) x9))) ∧ g1 (47 + 4) = .inl (cy 1, 4, .inl (fun x9 => nI ((pTm ps2) x9))) ∧ g1 45 = .inr (5, [.ref (ad 46), .int (nI (if fc < 8 then 0 else tlen)), .int (nI (trd2)), .int (nI (kd2)), .int (nI (tpl2)), .int tvl2]) ∧ (∀ j : Nat, j < 8 → g1 (82 + 2 * j) = .inr (0, [.ref (ad (82 + 2 * j + 1)), .int (nI (((if fc < 8 ∧ tkF R9 = 0 then va_up Fl fc (pLen R9.2.1) else Fl)) j))])) ∧ (∀ j : Nat, j < 8 → g1 (82 + 2 * j + 1) = .inl (cy 0, 200, .inl (fun x9 => nI ((((if fc < 8 ∧ tkF R9 = 0 then va_up FB fc (cpB (pB R9.2.1) (FB fc)) else FB)) j) x9)))) ∧ (∀ j, (j < 0 ∨ 1 ≤ j) → (j < 45 ∨ 46 ≤ j) → (j < 47 ∨ 52 ≤ j) → (j < 82 ∨ 98 ≤ j) → g1 j = g j)) D ad N) 0 0 (AA ad N) := by
  refine xentry (by decide) (Nat.le_of_ble_eq_true rfl) (fun p e s m below meth c ls S hr hlk hnm hP hK hXF hl => ?_)
  have S : CallFix p m c cX9_figure 1 s _ wsL_law RX9 := S
  have hx := S.1
  have hb := S.2.1
  have hl : lv_has ls 1 [(0, .ref (ad 0))] := hl
  have hI : MD (AA ad N) ad N := MD.in hinj
  have hS : va_S (AA ad N) s.heap s.heap [] := va_S.rf
  have hfr : ∀ j : Nat, g j = g j := fun _ => rfl
  refine lv_aload_n hx hb dX9_figure_0 rfl (lv_at hl 0 rfl) ?_
  refine mg S hK hP (by omega) hX fd_X9_174 rfl dX9_figure_1 ?_
  refine lv_aload_n hx hb dX9_figure_4 rfl (lv_at hl 0 rfl) ?_
  refine mg S hK hP (by omega) hX fd_X9_53 rfl dX9_figure_5 ?_
  refine malen S hK hP (by omega) hff rfl (v := nI 8) rfl dX9_figure_8 ?_
  refine lv_icmp_lt (tgt := 15) hx hb dX9_figure_9 (by decide) (fun c_9 => ?_) (fun c_9 => ?_)
  · skip
    have c_9 := (nI_ltI (by omega) (by omega)).mp c_9
    have hf8 : fc < 8 := by omega
    refine lv_aload_n hx hb dX9_figure_15 rfl (lv_at hl 0 rfl) ?_
    refine mg S hK hP (by omega) hX fd_X9_47 rfl dX9_figure_16 ?_
    refine lv_aload_n hx hb dX9_figure_19 rfl (lv_at hl 0 rfl) ?_
    refine mg S hK hP (by omega) hX fd_X9_40 rfl dX9_figure_20 ?_
    refine lv_aload_n hx hb dX9_figure_23 rfl (lv_at hl 0 rfl) ?_
    refine mg S hK hP (by omega) hX fd_X9_53 rfl dX9_figure_24 ?_
    refine lv_aload_n hx hb dX9_figure_27 rfl (lv_at hl 0 rfl) ?_
    refine mg S hK hP (by omega) hX fd_X9_174 rfl dX9_figure_28 ?_
    refine kXv (As := [.ref (ad 45), .ref (ad 52), .int (nI (fc))]) (rest := []) S hK hP hXF hS (c_X6_tell l D cy ad N g hinj sq sv (by omega) R9 ps ft fp hg hgd hgb hgs hgt hps tlen trd kd0 tpl tvl T hgk hgkt hlen hT ff hff hfj Fl FB hFo hFb hFl hFB fc hfc (hR9 hf8)) cv_X9_177 (by omega) hg ⟨_, _, rfl⟩ ⟨rfl, rfl⟩ rfl hl.1 rfl (Nat.le_of_ble_eq_true rfl) ⟨Nat.zero_le _, Nat.zero_le _⟩ dX9_figure_31 (fun g_1 H locs q_1 hP hS => ?_)
    obtain ⟨trd2_1, kd2_1, tpl2_1, tvl2_1, hRK2_1, h47_1, h47___1_1, h47___2_1, h47___3_1, h47___4_1, h45_1, f_1⟩ := q_1
    have h0_1 : g_1 0 = .inr (9, [.ref (ad 1), .ref (ad 17), .ref (ad 33), .ref (ad 34), .int (nI (qc)), .ref (ad 35), .ref (ad 45), .ref (ad 47), .ref (ad 52), .int (nI (fc)), .int lf, .int lt, .ref (ad 53), .int (nI (vc)), .ref (ad 54), .ref (ad 75)]) := (f_1 0 (by omega) (by omega)).trans hX
    have h46_1 : g_1 46 = .inl (cy 0, 160, .inl (fun x9 => sb_b (T x9))) := (f_1 46 (by omega) (by omega)).trans hgkt
    have h52_1 : g_1 52 = .inl (cy 3, 8, .inr (.inr (.inr (.inr ff)))) := (f_1 52 (by omega) (by omega)).trans hff
    have hfam_FO_1 : (∀ j : Nat, j < 8 → g_1 (82 + 2 * j) = .inr (0, [.ref (ad (82 + 2 * j + 1)), .int (nI (Fl j))])) := fun j hj => (f_1 (82 + 2 * j) (by omega) (by omega)).trans (hFo j hj)
    have hfam_FBm_1 : (∀ j : Nat, j < 8 → g_1 (82 + 2 * j + 1) = .inl (cy 0, 200, .inl (fun x9 => nI ((FB j) x9)))) := fun j hj => (f_1 (82 + 2 * j + 1) (by omega) (by omega)).trans (hFb j hj)
    have hfr_1 : ∀ j : Nat, (j < 45 ∨ 46 ≤ j) → (j < 47 ∨ 52 ≤ j) → g_1 j = g j := fun j n0 n1 => (f_1 j n0 n1).trans (hfr j )
    have hRK := hRK2_1.1
    have hF5 := hRK2_1.2
    refine lv_aload_n hx hb dX9_figure_34 rfl (lv_at hl 0 rfl) ?_
    refine mg S hK hP (by omega) h0_1 fd_X9_40 rfl dX9_figure_35 ?_
    refine lv_iconst (v := nI (0)) hx hb dX9_figure_38 (by decide) ?_
    refine mp S hK hP hI hS (by omega) h45_1 fd_X9_171 rfl rfl (Nat.le_of_ble_eq_true rfl) dX9_figure_39 (fun g_2 H locs eg_2 hP hS => ?_)
    have h45_2 : g_2 45 = .inr (5, [.ref (ad 46), .int (nI (0)), .int (nI (trd2_1)), .int (nI (kd2_1)), .int (nI (tpl2_1)), .int tvl2_1]) := by rw [eg_2, va_up_self]; exact rfl
    have h0_2 : g_2 0 = .inr (9, [.ref (ad 1), .ref (ad 17), .ref (ad 33), .ref (ad 34), .int (nI (qc)), .ref (ad 35), .ref (ad 45), .ref (ad 47), .ref (ad 52), .int (nI (fc)), .int lf, .int lt, .ref (ad 53), .int (nI (vc)), .ref (ad 54), .ref (ad 75)]) := ((congrFun eg_2 _).trans (va_up_ne _ _ (by omega))).trans h0_1
    have h47_2 : g_2 47 = .inr (6, [.ref (ad (47 + 1)), .ref (ad (47 + 3)), .ref (ad (47 + 4)), .int (nI (pOp R9.2.1)), .int (nI (pWt R9.2.1)), .int (nI (pLt R9.2.1)), .int (nI (pRd R9.2.1)), .int (nI (pEm R9.2.1)), .int (nI (pOv R9.2.1)), .int (nI (tkF R9)), .int (nI (tkP R9))]) := ((congrFun eg_2 _).trans (va_up_ne _ _ (by omega))).trans h47_1
    have h47___1_2 : g_2 (47 + 1) = .inr (0, [.ref (ad (47 + 2)), .int (nI (pLen R9.2.1))]) := ((congrFun eg_2 _).trans (va_up_ne _ _ (by omega))).trans h47___1_1
    have h47___2_2 : g_2 (47 + 2) = .inl (cy 0, 200, .inl (fun x9 => nI ((pB R9.2.1) x9))) := ((congrFun eg_2 _).trans (va_up_ne _ _ (by omega))).trans h47___2_1
    have h47___3_2 : g_2 (47 + 3) = .inl (cy 1, 4, .inl (fun x9 => nI ((pSt R9.2.1) x9))) := ((congrFun eg_2 _).trans (va_up_ne _ _ (by omega))).trans h47___3_1
    have h47___4_2 : g_2 (47 + 4) = .inl (cy 1, 4, .inl (fun x9 => nI ((pTm R9.2.1) x9))) := ((congrFun eg_2 _).trans (va_up_ne _ _ (by omega))).trans h47___4_1
    have h46_2 : g_2 46 = .inl (cy 0, 160, .inl (fun x9 => sb_b (T x9))) := ((congrFun eg_2 _).trans (va_up_ne _ _ (by omega))).trans h46_1
    have h52_2 : g_2 52 = .inl (cy 3, 8, .inr (.inr (.inr (.inr ff)))) := ((congrFun eg_2 _).trans (va_up_ne _ _ (by omega))).trans h52_1
    have hfam_FO_2 : (∀ j : Nat, j < 8 → g_2 (82 + 2 * j) = .inr (0, [.ref (ad (82 + 2 * j + 1)), .int (nI (Fl j))])) := fun j hj => ((congrFun eg_2 _).trans (va_up_ne _ _ (by omega))).trans (hfam_FO_1 j hj)
    have hfam_FBm_2 : (∀ j : Nat, j < 8 → g_2 (82 + 2 * j + 1) = .inl (cy 0, 200, .inl (fun x9 => nI ((FB j) x9)))) := fun j hj => ((congrFun eg_2 _).trans (va_up_ne _ _ (by omega))).trans (hfam_FBm_1 j hj)
    have hfr_2 : ∀ j : Nat, (j < 45 ∨ 46 ≤ j) → (j < 47 ∨ 52 ≤ j) → j ≠ 45 → g_2 j = g j := fun j n0 n1 n2 => ((congrFun eg_2 _).trans (va_up_ne _ _ n2)).trans (hfr_1 j n0 n1)
    refine lv_aload_n hx hb dX9_figure_42 rfl (lv_at hl 0 rfl) ?_
    refine lv_aload_n hx hb dX9_figure_43 rfl (lv_at hl 0 rfl) ?_
    refine mg S hK hP (by omega) h0_2 fd_X9_47 rfl dX9_figure_44 ?_
    refine mg S hK hP (by omega) h47_2 fd_X9_181 rfl dX9_figure_47 ?_
    refine mp S hK hP hI hS (by omega) h0_2 fd_X9_184 rfl rfl (Nat.le_of_ble_eq_true rfl) dX9_figure_50 (fun g_3 H locs eg_3 hP hS => ?_)
    have h0_3 : g_3 0 = .inr (9, [.ref (ad 1), .ref (ad 17), .ref (ad 33), .ref (ad 34), .int (nI (qc)), .ref (ad 35), .ref (ad 45), .ref (ad 47), .ref (ad 52), .int (nI (fc)), .int (nI (tkF R9)), .int lt, .ref (ad 53), .int (nI (vc)), .ref (ad 54), .ref (ad 75)]) := by rw [eg_3, va_up_self]; exact rfl
    have h47_3 : g_3 47 = .inr (6, [.ref (ad (47 + 1)), .ref (ad (47 + 3)), .ref (ad (47 + 4)), .int (nI (pOp R9.2.1)), .int (nI (pWt R9.2.1)), .int (nI (pLt R9.2.1)), .int (nI (pRd R9.2.1)), .int (nI (pEm R9.2.1)), .int (nI (pOv R9.2.1)), .int (nI (tkF R9)), .int (nI (tkP R9))]) := ((congrFun eg_3 _).trans (va_up_ne _ _ (by omega))).trans h47_2
    have h47___1_3 : g_3 (47 + 1) = .inr (0, [.ref (ad (47 + 2)), .int (nI (pLen R9.2.1))]) := ((congrFun eg_3 _).trans (va_up_ne _ _ (by omega))).trans h47___1_2
    have h47___2_3 : g_3 (47 + 2) = .inl (cy 0, 200, .inl (fun x9 => nI ((pB R9.2.1) x9))) := ((congrFun eg_3 _).trans (va_up_ne _ _ (by omega))).trans h47___2_2
    have h47___3_3 : g_3 (47 + 3) = .inl (cy 1, 4, .inl (fun x9 => nI ((pSt R9.2.1) x9))) := ((congrFun eg_3 _).trans (va_up_ne _ _ (by omega))).trans h47___3_2
    have h47___4_3 : g_3 (47 + 4) = .inl (cy 1, 4, .inl (fun x9 => nI ((pTm R9.2.1) x9))) := ((congrFun eg_3 _).trans (va_up_ne _ _ (by omega))).trans h47___4_2
    have h45_3 : g_3 45 = .inr (5, [.ref (ad 46), .int (nI (0)), .int (nI (trd2_1)), .int (nI (kd2_1)), .int (nI (tpl2_1)), .int tvl2_1]) := ((congrFun eg_3 _).trans (va_up_ne _ _ (by omega))).trans h45_2
    have h46_3 : g_3 46 = .inl (cy 0, 160, .inl (fun x9 => sb_b (T x9))) := ((congrFun eg_3 _).trans (va_up_ne _ _ (by omega))).trans h46_2
    have h52_3 : g_3 52 = .inl (cy 3, 8, .inr (.inr (.inr (.inr ff)))) := ((congrFun eg_3 _).trans (va_up_ne _ _ (by omega))).trans h52_2
    have hfam_FO_3 : (∀ j : Nat, j < 8 → g_3 (82 + 2 * j) = .inr (0, [.ref (ad (82 + 2 * j + 1)), .int (nI (Fl j))])) := fun j hj => ((congrFun eg_3 _).trans (va_up_ne _ _ (by omega))).trans (hfam_FO_2 j hj)
    have hfam_FBm_3 : (∀ j : Nat, j < 8 → g_3 (82 + 2 * j + 1) = .inl (cy 0, 200, .inl (fun x9 => nI ((FB j) x9)))) := fun j hj => ((congrFun eg_3 _).trans (va_up_ne _ _ (by omega))).trans (hfam_FBm_2 j hj)
    have hfr_3 : ∀ j : Nat, (j < 45 ∨ 46 ≤ j) → (j < 47 ∨ 52 ≤ j) → j ≠ 45 → j ≠ 0 → g_3 j = g j := fun j n0 n1 n2 n3 => ((congrFun eg_3 _).trans (va_up_ne _ _ n3)).trans (hfr_2 j n0 n1 n2)
    refine lv_aload_n hx hb dX9_figure_53 rfl (lv_at hl 0 rfl) ?_
    refine mg S hK hP (by omega) h0_3 fd_X9_184 rfl dX9_figure_54 ?_
    refine lv_if_eq (tgt := 71) hx hb dX9_figure_57 (by decide) (fun c_57 => ?_) (fun c_57 => ?_)
    · skip
      have c_57 := (z_eq (by omega)).mp c_57
      have hF0 : tkF R9 = 0 := c_57
      refine lv_aload_n hx hb dX9_figure_71 rfl (lv_at hl 0 rfl) ?_
      refine mg S hK hP (by omega) h0_3 fd_X9_53 rfl dX9_figure_72 ?_
      refine lv_aload_n hx hb dX9_figure_75 rfl (lv_at hl 0 rfl) ?_
      refine mg S hK hP (by omega) h0_3 fd_X9_174 rfl dX9_figure_76 ?_
      have hfc_4 : g_3 (82 + 2 * fc + 1) = .inl (cy 0, 200, .inl (fun x9 => nI ((FB fc) x9))) := hfam_FBm_3 fc hf8
      have hfc_5 : g_3 (82 + 2 * fc) = .inr (0, [.ref (ad (82 + 2 * fc + 1)), .int (nI (Fl fc))]) := hfam_FO_3 fc hf8
      refine mial7 S hK hP (by omega) h52_3 rfl (vp_in_nI (by omega) (by omega)) (a := ad (82 + 2 * fc)) ((congrArg ff (nI_clamp (by omega))).trans (hfj _ hf8)) dX9_figure_79 ?_
      refine lv_aload_n hx hb dX9_figure_80 rfl (lv_at hl 0 rfl) ?_
      refine mg S hK hP (by omega) h0_3 fd_X9_47 rfl dX9_figure_81 ?_
      refine mg S hK hP (by omega) h47_3 fd_X9_190 rfl dX9_figure_84 ?_
      refine kMv (As := [.ref (ad (47 + 1))]) (rest := []) S hK hP hS (fun _ h => h) (c_X0_become l D cy ad N g_3 hinj (82 + 2 * fc) (by omega) (82 + 2 * fc + 1) (by omega) (Fl fc) (FB fc) hfc_5 hfc_4 (by omega) (hFl fc) (hFB fc) (47 + 1) (by omega) (47 + 2) (by omega) (pLen R9.2.1) (pB R9.2.1) h47___1_3 h47___2_3 hRK.1.2 (by omega)) cv_X9_194 (by omega) hfc_5 ⟨_, _, rfl⟩ ⟨rfl, rfl⟩ rfl hl.1 rfl (Nat.le_of_ble_eq_true rfl) ⟨Nat.zero_le _, Nat.zero_le _⟩ dX9_figure_87 (fun g_6 H locs q_6 hP hS => ?_)
      obtain ⟨h_82___2___fc__6, h_82___2___fc___1__6, f_6⟩ := q_6
      have h0_6 : g_6 0 = .inr (9, [.ref (ad 1), .ref (ad 17), .ref (ad 33), .ref (ad 34), .int (nI (qc)), .ref (ad 35), .ref (ad 45), .ref (ad 47), .ref (ad 52), .int (nI (fc)), .int (nI (tkF R9)), .int lt, .ref (ad 53), .int (nI (vc)), .ref (ad 54), .ref (ad 75)]) := (f_6 0 (by omega) (by omega)).trans h0_3
      have h47_6 : g_6 47 = .inr (6, [.ref (ad (47 + 1)), .ref (ad (47 + 3)), .ref (ad (47 + 4)), .int (nI (pOp R9.2.1)), .int (nI (pWt R9.2.1)), .int (nI (pLt R9.2.1)), .int (nI (pRd R9.2.1)), .int (nI (pEm R9.2.1)), .int (nI (pOv R9.2.1)), .int (nI (tkF R9)), .int (nI (tkP R9))]) := (f_6 47 (by omega) (by omega)).trans h47_3
      have h47___1_6 : g_6 (47 + 1) = .inr (0, [.ref (ad (47 + 2)), .int (nI (pLen R9.2.1))]) := (f_6 (47 + 1) (by omega) (by omega)).trans h47___1_3
      have h47___2_6 : g_6 (47 + 2) = .inl (cy 0, 200, .inl (fun x9 => nI ((pB R9.2.1) x9))) := (f_6 (47 + 2) (by omega) (by omega)).trans h47___2_3
      have h47___3_6 : g_6 (47 + 3) = .inl (cy 1, 4, .inl (fun x9 => nI ((pSt R9.2.1) x9))) := (f_6 (47 + 3) (by omega) (by omega)).trans h47___3_3
      have h47___4_6 : g_6 (47 + 4) = .inl (cy 1, 4, .inl (fun x9 => nI ((pTm R9.2.1) x9))) := (f_6 (47 + 4) (by omega) (by omega)).trans h47___4_3
      have h45_6 : g_6 45 = .inr (5, [.ref (ad 46), .int (nI (0)), .int (nI (trd2_1)), .int (nI (kd2_1)), .int (nI (tpl2_1)), .int tvl2_1]) := (f_6 45 (by omega) (by omega)).trans h45_3
      have h46_6 : g_6 46 = .inl (cy 0, 160, .inl (fun x9 => sb_b (T x9))) := (f_6 46 (by omega) (by omega)).trans h46_3
      have h52_6 : g_6 52 = .inl (cy 3, 8, .inr (.inr (.inr (.inr ff)))) := (f_6 52 (by omega) (by omega)).trans h52_3
      have hfam_FO_6 : (∀ j : Nat, j < 8 → g_6 (82 + 2 * j) = .inr (0, [.ref (ad (82 + 2 * j + 1)), .int (nI ((va_up Fl fc ((pLen R9.2.1))) j))])) := fam_up (id := fun j => 82 + 2 * j) (cell := fun j w9 => .inr (0, [.ref (ad (82 + 2 * j + 1)), .int (nI (w9))])) (fun j hj e => (f_6 (82 + 2 * j) (by omega) (by omega)).trans (hfam_FO_3 j hj)) h_82___2___fc__6
      have hfam_FBm_6 : (∀ j : Nat, j < 8 → g_6 (82 + 2 * j + 1) = .inl (cy 0, 200, .inl (fun x9 => nI (((va_up FB fc (cpB (pB R9.2.1) (FB fc))) j) x9)))) := fam_up (id := fun j => 82 + 2 * j + 1) (cell := fun j (w9 : Nat → Nat) => .inl (cy 0, 200, .inl (fun x9 => nI (w9 x9)))) (fun j hj e => (f_6 (82 + 2 * j + 1) (by omega) (by omega)).trans (hfam_FBm_3 j hj)) h_82___2___fc___1__6
      have hfr_6 : ∀ j : Nat, (j < 45 ∨ 46 ≤ j) → (j < 47 ∨ 52 ≤ j) → j ≠ 45 → j ≠ 0 → j ≠ (82 + 2 * fc) → j ≠ (82 + 2 * fc + 1) → g_6 j = g j := fun j n0 n1 n2 n3 n4 n5 => (f_6 j n4 n5).trans (hfr_3 j n0 n1 n2 n3)
      refine lv_aload_n hx hb dX9_figure_90 rfl (lv_at hl 0 rfl) ?_
      refine lv_dup hx hb dX9_figure_91 rfl ?_
      refine mg S hK hP (by omega) h0_6 fd_X9_174 rfl dX9_figure_92 ?_
      refine lv_iconst (v := nI (1)) hx hb dX9_figure_95 (by decide) ?_
      refine lv_iadd hx hb dX9_figure_96 ?_
      refine tpi (nI_add fc 1) ?_
      refine mp S hK hP hI hS (by omega) h0_6 fd_X9_174 rfl rfl (Nat.le_of_ble_eq_true rfl) dX9_figure_97 (fun g_7 H locs eg_7 hP hS => ?_)
      have h0_7 : g_7 0 = .inr (9, [.ref (ad 1), .ref (ad 17), .ref (ad 33), .ref (ad 34), .int (nI (qc)), .ref (ad 35), .ref (ad 45), .ref (ad 47), .ref (ad 52), .int (nI (fc + 1)), .int (nI (tkF R9)), .int lt, .ref (ad 53), .int (nI (vc)), .ref (ad 54), .ref (ad 75)]) := by rw [eg_7, va_up_self]; exact rfl
      have h47_7 : g_7 47 = .inr (6, [.ref (ad (47 + 1)), .ref (ad (47 + 3)), .ref (ad (47 + 4)), .int (nI (pOp R9.2.1)), .int (nI (pWt R9.2.1)), .int (nI (pLt R9.2.1)), .int (nI (pRd R9.2.1)), .int (nI (pEm R9.2.1)), .int (nI (pOv R9.2.1)), .int (nI (tkF R9)), .int (nI (tkP R9))]) := ((congrFun eg_7 _).trans (va_up_ne _ _ (by omega))).trans h47_6
      have h47___1_7 : g_7 (47 + 1) = .inr (0, [.ref (ad (47 + 2)), .int (nI (pLen R9.2.1))]) := ((congrFun eg_7 _).trans (va_up_ne _ _ (by omega))).trans h47___1_6
      have h47___2_7 : g_7 (47 + 2) = .inl (cy 0, 200, .inl (fun x9 => nI ((pB R9.2.1) x9))) := ((congrFun eg_7 _).trans (va_up_ne _ _ (by omega))).trans h47___2_6
      have h47___3_7 : g_7 (47 + 3) = .inl (cy 1, 4, .inl (fun x9 => nI ((pSt R9.2.1) x9))) := ((congrFun eg_7 _).trans (va_up_ne _ _ (by omega))).trans h47___3_6
      have h47___4_7 : g_7 (47 + 4) = .inl (cy 1, 4, .inl (fun x9 => nI ((pTm R9.2.1) x9))) := ((congrFun eg_7 _).trans (va_up_ne _ _ (by omega))).trans h47___4_6
      have h45_7 : g_7 45 = .inr (5, [.ref (ad 46), .int (nI (0)), .int (nI (trd2_1)), .int (nI (kd2_1)), .int (nI (tpl2_1)), .int tvl2_1]) := ((congrFun eg_7 _).trans (va_up_ne _ _ (by omega))).trans h45_6
      have h46_7 : g_7 46 = .inl (cy 0, 160, .inl (fun x9 => sb_b (T x9))) := ((congrFun eg_7 _).trans (va_up_ne _ _ (by omega))).trans h46_6
      have h52_7 : g_7 52 = .inl (cy 3, 8, .inr (.inr (.inr (.inr ff)))) := ((congrFun eg_7 _).trans (va_up_ne _ _ (by omega))).trans h52_6
      have h82___2___fc___1_7 : g_7 (82 + 2 * fc + 1) = .inl (cy 0, 200, .inl (fun x9 => nI ((cpB (pB R9.2.1) (FB fc)) x9))) := ((congrFun eg_7 _).trans (va_up_ne _ _ (by omega))).trans h_82___2___fc___1__6
      have h82___2___fc_7 : g_7 (82 + 2 * fc) = .inr (0, [.ref (ad (82 + 2 * fc + 1)), .int (nI ((pLen R9.2.1)))]) := ((congrFun eg_7 _).trans (va_up_ne _ _ (by omega))).trans h_82___2___fc__6
      have hfam_FO_7 : (∀ j : Nat, j < 8 → g_7 (82 + 2 * j) = .inr (0, [.ref (ad (82 + 2 * j + 1)), .int (nI ((va_up Fl fc ((pLen R9.2.1))) j))])) := fun j hj => ((congrFun eg_7 _).trans (va_up_ne _ _ (by omega))).trans (hfam_FO_6 j hj)
      have hfam_FBm_7 : (∀ j : Nat, j < 8 → g_7 (82 + 2 * j + 1) = .inl (cy 0, 200, .inl (fun x9 => nI (((va_up FB fc (cpB (pB R9.2.1) (FB fc))) j) x9)))) := fun j hj => ((congrFun eg_7 _).trans (va_up_ne _ _ (by omega))).trans (hfam_FBm_6 j hj)
      have hfr_7 : ∀ j : Nat, (j < 45 ∨ 46 ≤ j) → (j < 47 ∨ 52 ≤ j) → j ≠ 45 → j ≠ 0 → j ≠ (82 + 2 * fc) → j ≠ (82 + 2 * fc + 1) → g_7 j = g j := fun j n0 n1 n2 n3 n4 n5 => ((congrFun eg_7 _).trans (va_up_ne _ _ n3)).trans (hfr_6 j n0 n1 n2 n3 n4 n5)
      refine lv_aload_n hx hb dX9_figure_100 rfl (lv_at hl 0 rfl) ?_
      refine mg S hK hP (by omega) h0_7 fd_X9_174 rfl dX9_figure_101 ?_
      refine lv_iconst (v := nI (1)) hx hb dX9_figure_104 (by decide) ?_
      refine lv_isub hx hb dX9_figure_105 ?_
      refine tpi (pk_sub (a := fc + 1) (b := 1) (by omega)) ?_
      exact rMi S hr hlk hP hS ⟨R9.2.1, _, _, _, _, _, _, (by rw [if_pos hf8, if_pos hF0, Nat.add_sub_cancel]), hRK, (by rw [if_pos ⟨hf8, hF0⟩, if_pos hf8]; exact h0_7), h47_7, h47___1_7, h47___2_7, h47___3_7, h47___4_7, (by rw [if_pos hf8]; exact h45_7), (by rw [if_pos ⟨hf8, hF0⟩]; exact hfam_FO_7), (by rw [if_pos ⟨hf8, hF0⟩]; exact hfam_FBm_7), (fun j n0 n1 n2 n3 => hfr_7 j (by omega) (by omega) (by omega) (by omega) (by omega) (by omega))⟩ dX9_figure_106
    · skip
      have c_57 := (not_congr (z_eq (by omega))).mp c_57
      have hFn : ¬ tkF R9 = 0 := c_57
      refine lv_bipush (v := (-10)) hx hb dX9_figure_60 (by decide) ?_
      refine lv_aload_n hx hb dX9_figure_62 rfl (lv_at hl 0 rfl) ?_
      refine mg S hK hP (by omega) h0_3 fd_X9_47 rfl dX9_figure_63 ?_
      refine mg S hK hP (by omega) h47_3 fd_X9_187 rfl dX9_figure_66 ?_
      refine lv_isub hx hb dX9_figure_69 ?_
      exact rMi S hr hlk hP hS ⟨R9.2.1, _, _, _, _, _, _, (by rw [if_pos hf8, if_neg hFn]), hRK, (by rw [if_neg (fun z => hFn z.2), if_pos hf8]; exact h0_3), h47_3, h47___1_3, h47___2_3, h47___3_3, h47___4_3, (by rw [if_pos hf8]; exact h45_3), (by rw [if_neg (fun z => hFn z.2)]; exact hfam_FO_3), (by rw [if_neg (fun z => hFn z.2)]; exact hfam_FBm_3), (fun j n0 n1 n2 n3 => hfr_3 j (by omega) (by omega) (by omega) (by omega))⟩ dX9_figure_70
  · skip
    have c_9 := (not_congr (nI_ltI (by omega) (by omega))).mp c_9
    have hfn : ¬ fc < 8 := by omega
    refine lv_bipush (v := (-3)) hx hb dX9_figure_12 (by decide) ?_
    exact rMi S hr hlk hP hS ⟨ps, ft, fp, trd, kd0, tpl, tvl, (if_neg hfn).symm, hps, (by rw [if_neg (fun z => hfn z.1), if_neg hfn]; exact hX), hg, hgd, hgb, hgs, hgt, (by rw [if_neg hfn]; exact hgk), (by rw [if_neg (fun z => hfn z.1)]; exact hFo), (by rw [if_neg (fun z => hfn z.1)]; exact hFb), (fun j n0 n1 n2 n3 => hfr j )⟩ dX9_figure_14


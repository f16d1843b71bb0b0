set_option maxHeartbeats 4000000 in
set_option maxRecDepth 100000 in
theorem c_X10_figure (l : Launch) (D : va_G) (cy : Nat → ClassId) (ad : Nat → Nat) (N : Nat) (g : Nat → va_E) (hinj : ∀ i j : Nat, i < N → j < N → ad i = ad j → i = j) (y0 : PS) (R9 : TS) (hN : 145 ≤ N) (n : Nat) (fa : Nat) (he : Nat) (ov : Nat) (un : Nat) (la : Int32) (bo : Int32) (tp : Nat) (ft : Int32) (wr0 : Nat) (wa : Nat) (at0 : Nat) (sp : Nat) (tk : Nat) (vl : Int32) (fi : Nat) (nm : Nat) (dp : Nat) (wy : Int32) (st : Int32) (aP : Nat) (aF : Nat) (aH : Nat) (aO : Nat) (ps : Nat) (mn : Nat) (go : Int32) (vi : Nat) (hM : g 114 = mob ad (nI (n)) (nI (fa)) (nI (he)) (lN ov) (nI (un)) la bo (nI (tp)) ft (nI (wr0)) (nI (wa)) (nI (at0)) (nI (sp)) (nI (tk)) vl (nI (fi)) (nI (nm)) (nI (dp)) wy st (nI (aP)) (nI (aF)) (nI (aH)) (lN aO) (nI (ps)) (nI (mn)) go (nI (vi))) (TP : Nat → Nat) (hTP : g 121 = .inl (cy 1, 160, .inl (fun x9 => nI (TP x9)))) (T : Nat → Nat) (htp : tp ≤ 160) (hTT : ∀ i, i < tp → TP i = T i) (hT : ∀ i, T i < 256) (NS : Nat → Nat) (hNS : g 125 = .inl (cy 1, 201, .inl (fun x9 => nI (NS x9)))) (NN : Nat → Nat) (hNN : g 126 = .inl (cy 1, 201, .inl (fun x9 => nI (NN x9)))) (BG : Nat → Nat) (hBG : g 127 = .inl (cy 1, 5, .inl (fun x9 => nI (BG x9)))) (RD : Nat → Nat) (hRD : g 128 = .inl (cy 1, 5, .inl (fun x9 => nI (RD x9)))) (IT : Nat → Nat) (hIT : g 129 = .inl (cy 1, 5, .inl (fun x9 => nI (IT x9)))) (BY : Nat → Nat) (hBY : g 122 = .inl (cy 1, 8, .inl (fun x9 => nI (BY x9)))) (BS : Nat → Nat) (hBS : g 123 = .inl (cy 1, 1600, .inl (fun x9 => nI (BS x9)))) (BN : Nat → Nat) (hBN : g 124 = .inl (cy 1, 1600, .inl (fun x9 => nI (BN x9)))) (Fl : Nat → Nat) (FB : Nat → Nat → Nat) (hfi : fi ≤ 8) (hFR : FR fi BY BS BN Fl FB) (hFB : ∀ j i, FB j i < 64) (hR9 : fi < 8 → tkR Fl FB fi T tp y0 161 = R9) (hy0 : (POK y0 ∧ pLen y0 = 0) ∧ (pOp y0 = 0 ∧ pEm y0 = 1) ∧ (pOv y0 = 0 ∧ pWt y0 = 0)) : Met l yX10_figure (WS yX10_figure cX10_figure 3 (some .int)) (rmF 3 70) (PP [.ref (ad 114)] D cy ad N g) (QI (fun r g1 => ∃ (at2 : Nat), ∃ (sp2 : Nat), ∃ (tk2 : Nat), ∃ (vl2 : Int32), ∃ (wr2 : Nat), ∃ (wa2 : Nat), ∃ (nm2 : Nat), ∃ (dp2 : Nat), ∃ (NS2 : Nat → Nat), ∃ (NN2 : Nat → Nat), ∃ (BG2 : Nat → Nat), ∃ (RD2 : Nat → Nat), ∃ (IT2 : Nat → Nat), ∃ (BY2 : Nat → Nat), ∃ (BS2 : Nat → Nat), ∃ (BN2 : Nat → Nat), (r = if fi < 8 then (if tkF R9 = 0 then nI fi else -10 - nI (tkP R9)) else -3) ∧ (FR (if fi < 8 ∧ tkF R9 = 0 then fi + 1 else fi) BY2 BS2 BN2 (if fi < 8 ∧ tkF R9 = 0 then va_up Fl fi (pLen R9.2.1) else Fl) (if fi < 8 ∧ tkF R9 = 0 then va_up FB fi (cpB (pB R9.2.1) (FB fi)) else FB)) ∧ g1 114 = mob ad (nI (n)) (nI (fa)) (nI (he)) (lN ov) (nI (un)) la bo (nI (if fi < 8 then 0 else tp)) (if fi < 8 then nI (tkF R9) else ft) (nI (wr2)) (nI (wa2)) (nI (at2)) (nI (sp2)) (nI (tk2)) vl2 (nI (if fi < 8 ∧ tkF R9 = 0 then fi + 1 else fi)) (nI (nm2)) (nI (dp2)) wy st (nI (aP)) (nI (aF)) (nI (aH)) (lN aO) (nI (ps)) (nI (mn)) go (nI (vi)) ∧ g1 125 = .inl (cy 1, 201, .inl (fun x9 => nI (NS2 x9))) ∧ g1 126 = .inl (cy 1, 201, .inl (fun x9 => nI (NN2 x9))) ∧ g1 127 = .inl (cy 1, 5, .inl (fun x9 => nI (BG2 x9))) ∧ g1 128 = .inl (cy 1, 5, .inl (fun x9 => nI (RD2 x9))) ∧ g1 129 = .inl (cy 1, 5, .inl (fun x9 => nI (IT2 x9))) ∧ g1 122 = .inl (cy 1, 8, .inl (fun x9 => nI (BY2 x9))) ∧ g1 123 = .inl (cy 1, 1600, .inl (fun x9 => nI (BS2 x9))) ∧ g1 124 = .inl (cy 1, 1600, .inl (fun x9 => nI (BN2 x9))) ∧ (∀ j, j ≠ 114 → j ≠ 125 → j ≠ 126 → j ≠ 127 → j ≠ 128 → j ≠ 129 → j ≠ 122 → j ≠ 123 → j ≠ 124 → g1 j = g j)) D ad N) 0 0 (AA ad N) := by
  refine mentry (by decide) (Nat.le_of_ble_eq_true rfl) (fun p e s m below meth c ls S hr hlk hnm hP hK hl => ?_)
  have S : CallFix p m c cX10_figure 3 s _ wsL_law RX10 := S
  have hx := S.1
  have hb := S.2.1
  have hl : lv_has ls 3 [(0, .ref (ad 114))] := hl
  have hI : MD (AA ad N) ad N := MD.in hinj
  have hS : va_S (AA ad N) s.heap s.heap [] := va_S.rf
  have hfr : ∀ j : Nat, g j = g j := fun _ => rfl
  refine lv_aload_n hx hb dX10_figure_0 rfl (lv_at hl 0 rfl) ?_
  refine mg S hK hP (by omega) hM fd_X10_262 rfl dX10_figure_1 ?_
  refine lv_bipush (v := nI (8)) hx hb dX10_figure_4 (by decide) ?_
  refine lv_icmp_ne (tgt := 12) hx hb dX10_figure_6 (by decide) (fun c_6 => ?_) (fun c_6 => ?_)
  · skip
    have c_6 := (not_congr (nI_eq (by omega) (by omega))).mp c_6
    have hfi8 : fi < 8 := by omega
    refine lv_aload_n hx hb dX10_figure_12 rfl (lv_at hl 0 rfl) ?_
    refine lv_iconst (v := nI (0)) hx hb dX10_figure_13 (by decide) ?_
    refine mp S hK hP hI hS (by omega) hM fd_X10_225 rfl rfl (Nat.le_of_ble_eq_true rfl) dX10_figure_14 (fun g_1 H locs eg_1 hP hS => ?_)
    have h114_1 : g_1 114 = mob ad (nI (n)) (nI (fa)) (nI (he)) (lN ov) (nI (un)) la bo (nI (tp)) ft (nI (0)) (nI (wa)) (nI (at0)) (nI (sp)) (nI (tk)) vl (nI (fi)) (nI (nm)) (nI (dp)) wy st (nI (aP)) (nI (aF)) (nI (aH)) (lN aO) (nI (ps)) (nI (mn)) go (nI (vi)) := by rw [eg_1, va_up_self]; exact rfl
    have h121_1 : g_1 121 = .inl (cy 1, 160, .inl (fun x9 => nI (TP x9))) := ((congrFun eg_1 _).trans (va_up_ne _ _ (by omega))).trans hTP
    have h125_1 : g_1 125 = .inl (cy 1, 201, .inl (fun x9 => nI (NS x9))) := ((congrFun eg_1 _).trans (va_up_ne _ _ (by omega))).trans hNS
    have h126_1 : g_1 126 = .inl (cy 1, 201, .inl (fun x9 => nI (NN x9))) := ((congrFun eg_1 _).trans (va_up_ne _ _ (by omega))).trans hNN
    have h127_1 : g_1 127 = .inl (cy 1, 5, .inl (fun x9 => nI (BG x9))) := ((congrFun eg_1 _).trans (va_up_ne _ _ (by omega))).trans hBG
    have h128_1 : g_1 128 = .inl (cy 1, 5, .inl (fun x9 => nI (RD x9))) := ((congrFun eg_1 _).trans (va_up_ne _ _ (by omega))).trans hRD
    have h129_1 : g_1 129 = .inl (cy 1, 5, .inl (fun x9 => nI (IT x9))) := ((congrFun eg_1 _).trans (va_up_ne _ _ (by omega))).trans hIT
    have h122_1 : g_1 122 = .inl (cy 1, 8, .inl (fun x9 => nI (BY x9))) := ((congrFun eg_1 _).trans (va_up_ne _ _ (by omega))).trans hBY
    have h123_1 : g_1 123 = .inl (cy 1, 1600, .inl (fun x9 => nI (BS x9))) := ((congrFun eg_1 _).trans (va_up_ne _ _ (by omega))).trans hBS
    have h124_1 : g_1 124 = .inl (cy 1, 1600, .inl (fun x9 => nI (BN x9))) := ((congrFun eg_1 _).trans (va_up_ne _ _ (by omega))).trans hBN
    have hfr_1 : ∀ j : Nat, j ≠ 114 → g_1 j = g j := fun j n0 => ((congrFun eg_1 _).trans (va_up_ne _ _ n0)).trans (hfr j )
    refine lv_aload_n hx hb dX10_figure_17 rfl (lv_at hl 0 rfl) ?_
    refine lv_iconst (v := nI (0)) hx hb dX10_figure_18 (by decide) ?_
    refine mp S hK hP hI hS (by omega) h114_1 fd_X10_234 rfl rfl (Nat.le_of_ble_eq_true rfl) dX10_figure_19 (fun g_2 H locs eg_2 hP hS => ?_)
    have h114_2 : g_2 114 = mob ad (nI (n)) (nI (fa)) (nI (he)) (lN ov) (nI (un)) la bo (nI (tp)) ft (nI (0)) (nI (wa)) (nI (0)) (nI (sp)) (nI (tk)) vl (nI (fi)) (nI (nm)) (nI (dp)) wy st (nI (aP)) (nI (aF)) (nI (aH)) (lN aO) (nI (ps)) (nI (mn)) go (nI (vi)) := by rw [eg_2, va_up_self]; exact rfl
    have h121_2 : g_2 121 = .inl (cy 1, 160, .inl (fun x9 => nI (TP x9))) := ((congrFun eg_2 _).trans (va_up_ne _ _ (by omega))).trans h121_1
    have h125_2 : g_2 125 = .inl (cy 1, 201, .inl (fun x9 => nI (NS x9))) := ((congrFun eg_2 _).trans (va_up_ne _ _ (by omega))).trans h125_1
    have h126_2 : g_2 126 = .inl (cy 1, 201, .inl (fun x9 => nI (NN x9))) := ((congrFun eg_2 _).trans (va_up_ne _ _ (by omega))).trans h126_1
    have h127_2 : g_2 127 = .inl (cy 1, 5, .inl (fun x9 => nI (BG x9))) := ((congrFun eg_2 _).trans (va_up_ne _ _ (by omega))).trans h127_1
    have h128_2 : g_2 128 = .inl (cy 1, 5, .inl (fun x9 => nI (RD x9))) := ((congrFun eg_2 _).trans (va_up_ne _ _ (by omega))).trans h128_1
    have h129_2 : g_2 129 = .inl (cy 1, 5, .inl (fun x9 => nI (IT x9))) := ((congrFun eg_2 _).trans (va_up_ne _ _ (by omega))).trans h129_1
    have h122_2 : g_2 122 = .inl (cy 1, 8, .inl (fun x9 => nI (BY x9))) := ((congrFun eg_2 _).trans (va_up_ne _ _ (by omega))).trans h122_1
    have h123_2 : g_2 123 = .inl (cy 1, 1600, .inl (fun x9 => nI (BS x9))) := ((congrFun eg_2 _).trans (va_up_ne _ _ (by omega))).trans h123_1
    have h124_2 : g_2 124 = .inl (cy 1, 1600, .inl (fun x9 => nI (BN x9))) := ((congrFun eg_2 _).trans (va_up_ne _ _ (by omega))).trans h124_1
    have hfr_2 : ∀ j : Nat, j ≠ 114 → g_2 j = g j := fun j n0 => ((congrFun eg_2 _).trans (va_up_ne _ _ n0)).trans (hfr_1 j n0)
    refine lv_aload_n hx hb dX10_figure_22 rfl (lv_at hl 0 rfl) ?_
    refine lv_iconst (v := nI (0)) hx hb dX10_figure_23 (by decide) ?_
    refine mp S hK hP hI hS (by omega) h114_2 fd_X10_256 rfl rfl (Nat.le_of_ble_eq_true rfl) dX10_figure_24 (fun g_3 H locs eg_3 hP hS => ?_)
    have h114_3 : g_3 114 = mob ad (nI (n)) (nI (fa)) (nI (he)) (lN ov) (nI (un)) la bo (nI (tp)) ft (nI (0)) (nI (wa)) (nI (0)) (nI (sp)) (nI (tk)) vl (nI (fi)) (nI (0)) (nI (dp)) wy st (nI (aP)) (nI (aF)) (nI (aH)) (lN aO) (nI (ps)) (nI (mn)) go (nI (vi)) := by rw [eg_3, va_up_self]; exact rfl
    have h121_3 : g_3 121 = .inl (cy 1, 160, .inl (fun x9 => nI (TP x9))) := ((congrFun eg_3 _).trans (va_up_ne _ _ (by omega))).trans h121_2
    have h125_3 : g_3 125 = .inl (cy 1, 201, .inl (fun x9 => nI (NS x9))) := ((congrFun eg_3 _).trans (va_up_ne _ _ (by omega))).trans h125_2
    have h126_3 : g_3 126 = .inl (cy 1, 201, .inl (fun x9 => nI (NN x9))) := ((congrFun eg_3 _).trans (va_up_ne _ _ (by omega))).trans h126_2
    have h127_3 : g_3 127 = .inl (cy 1, 5, .inl (fun x9 => nI (BG x9))) := ((congrFun eg_3 _).trans (va_up_ne _ _ (by omega))).trans h127_2
    have h128_3 : g_3 128 = .inl (cy 1, 5, .inl (fun x9 => nI (RD x9))) := ((congrFun eg_3 _).trans (va_up_ne _ _ (by omega))).trans h128_2
    have h129_3 : g_3 129 = .inl (cy 1, 5, .inl (fun x9 => nI (IT x9))) := ((congrFun eg_3 _).trans (va_up_ne _ _ (by omega))).trans h129_2
    have h122_3 : g_3 122 = .inl (cy 1, 8, .inl (fun x9 => nI (BY x9))) := ((congrFun eg_3 _).trans (va_up_ne _ _ (by omega))).trans h122_2
    have h123_3 : g_3 123 = .inl (cy 1, 1600, .inl (fun x9 => nI (BS x9))) := ((congrFun eg_3 _).trans (va_up_ne _ _ (by omega))).trans h123_2
    have h124_3 : g_3 124 = .inl (cy 1, 1600, .inl (fun x9 => nI (BN x9))) := ((congrFun eg_3 _).trans (va_up_ne _ _ (by omega))).trans h124_2
    have hfr_3 : ∀ j : Nat, j ≠ 114 → g_3 j = g j := fun j n0 => ((congrFun eg_3 _).trans (va_up_ne _ _ n0)).trans (hfr_2 j n0)
    refine lv_aload_n hx hb dX10_figure_27 rfl (lv_at hl 0 rfl) ?_
    refine lv_iconst (v := nI (0)) hx hb dX10_figure_28 (by decide) ?_
    refine mp S hK hP hI hS (by omega) h114_3 fd_X10_269 rfl rfl (Nat.le_of_ble_eq_true rfl) dX10_figure_29 (fun g_4 H locs eg_4 hP hS => ?_)
    have h114_4 : g_4 114 = mob ad (nI (n)) (nI (fa)) (nI (he)) (lN ov) (nI (un)) la bo (nI (tp)) ft (nI (0)) (nI (wa)) (nI (0)) (nI (sp)) (nI (tk)) vl (nI (fi)) (nI (0)) (nI (0)) wy st (nI (aP)) (nI (aF)) (nI (aH)) (lN aO) (nI (ps)) (nI (mn)) go (nI (vi)) := by rw [eg_4, va_up_self]; exact rfl
    have h121_4 : g_4 121 = .inl (cy 1, 160, .inl (fun x9 => nI (TP x9))) := ((congrFun eg_4 _).trans (va_up_ne _ _ (by omega))).trans h121_3
    have h125_4 : g_4 125 = .inl (cy 1, 201, .inl (fun x9 => nI (NS x9))) := ((congrFun eg_4 _).trans (va_up_ne _ _ (by omega))).trans h125_3
    have h126_4 : g_4 126 = .inl (cy 1, 201, .inl (fun x9 => nI (NN x9))) := ((congrFun eg_4 _).trans (va_up_ne _ _ (by omega))).trans h126_3
    have h127_4 : g_4 127 = .inl (cy 1, 5, .inl (fun x9 => nI (BG x9))) := ((congrFun eg_4 _).trans (va_up_ne _ _ (by omega))).trans h127_3
    have h128_4 : g_4 128 = .inl (cy 1, 5, .inl (fun x9 => nI (RD x9))) := ((congrFun eg_4 _).trans (va_up_ne _ _ (by omega))).trans h128_3
    have h129_4 : g_4 129 = .inl (cy 1, 5, .inl (fun x9 => nI (IT x9))) := ((congrFun eg_4 _).trans (va_up_ne _ _ (by omega))).trans h129_3
    have h122_4 : g_4 122 = .inl (cy 1, 8, .inl (fun x9 => nI (BY x9))) := ((congrFun eg_4 _).trans (va_up_ne _ _ (by omega))).trans h122_3
    have h123_4 : g_4 123 = .inl (cy 1, 1600, .inl (fun x9 => nI (BS x9))) := ((congrFun eg_4 _).trans (va_up_ne _ _ (by omega))).trans h123_3
    have h124_4 : g_4 124 = .inl (cy 1, 1600, .inl (fun x9 => nI (BN x9))) := ((congrFun eg_4 _).trans (va_up_ne _ _ (by omega))).trans h124_3
    have hfr_4 : ∀ j : Nat, j ≠ 114 → g_4 j = g j := fun j n0 => ((congrFun eg_4 _).trans (va_up_ne _ _ n0)).trans (hfr_3 j n0)
    refine lv_aload_n hx hb dX10_figure_32 rfl (lv_at hl 0 rfl) ?_
    refine mg S hK hP (by omega) h114_4 fd_X10_63 rfl dX10_figure_33 ?_
    refine lv_iconst (v := nI (0)) hx hb dX10_figure_36 (by decide) ?_
    refine lv_iconst (v := nI (0)) hx hb dX10_figure_37 (by decide) ?_
    refine mias S hK hP hI hS (by omega) h129_4 (vp_in_nI (by omega) (by omega)) dX10_figure_38 (fun g_5 H locs eg_5 hP hS => ?_)
    have h129_5 : g_5 129 = .inl (cy 1, 5, .inl (fun x9 => nI ((va_up IT 0 0) x9))) := by rw [eg_5, va_up_self]; exact (arrN_up (by omega))
    have h114_5 : g_5 114 = mob ad (nI (n)) (nI (fa)) (nI (he)) (lN ov) (nI (un)) la bo (nI (tp)) ft (nI (0)) (nI (wa)) (nI (0)) (nI (sp)) (nI (tk)) vl (nI (fi)) (nI (0)) (nI (0)) wy st (nI (aP)) (nI (aF)) (nI (aH)) (lN aO) (nI (ps)) (nI (mn)) go (nI (vi)) := ((congrFun eg_5 _).trans (va_up_ne _ _ (by omega))).trans h114_4
    have h121_5 : g_5 121 = .inl (cy 1, 160, .inl (fun x9 => nI (TP x9))) := ((congrFun eg_5 _).trans (va_up_ne _ _ (by omega))).trans h121_4
    have h125_5 : g_5 125 = .inl (cy 1, 201, .inl (fun x9 => nI (NS x9))) := ((congrFun eg_5 _).trans (va_up_ne _ _ (by omega))).trans h125_4
    have h126_5 : g_5 126 = .inl (cy 1, 201, .inl (fun x9 => nI (NN x9))) := ((congrFun eg_5 _).trans (va_up_ne _ _ (by omega))).trans h126_4
    have h127_5 : g_5 127 = .inl (cy 1, 5, .inl (fun x9 => nI (BG x9))) := ((congrFun eg_5 _).trans (va_up_ne _ _ (by omega))).trans h127_4
    have h128_5 : g_5 128 = .inl (cy 1, 5, .inl (fun x9 => nI (RD x9))) := ((congrFun eg_5 _).trans (va_up_ne _ _ (by omega))).trans h128_4
    have h122_5 : g_5 122 = .inl (cy 1, 8, .inl (fun x9 => nI (BY x9))) := ((congrFun eg_5 _).trans (va_up_ne _ _ (by omega))).trans h122_4
    have h123_5 : g_5 123 = .inl (cy 1, 1600, .inl (fun x9 => nI (BS x9))) := ((congrFun eg_5 _).trans (va_up_ne _ _ (by omega))).trans h123_4
    have h124_5 : g_5 124 = .inl (cy 1, 1600, .inl (fun x9 => nI (BN x9))) := ((congrFun eg_5 _).trans (va_up_ne _ _ (by omega))).trans h124_4
    have hfr_5 : ∀ j : Nat, j ≠ 114 → j ≠ 129 → g_5 j = g j := fun j n0 n1 => ((congrFun eg_5 _).trans (va_up_ne _ _ n1)).trans (hfr_4 j n0)
    refine lv_aload_n hx hb dX10_figure_39 rfl (lv_at hl 0 rfl) ?_
    refine kMv (As := []) (rest := []) S hK hP hS (fun _ h => h) (c_X10_next l D cy ad N g_5 hinj (by omega) n fa he ov un la bo tp ft 0 wa 0 sp tk vl fi 0 0 wy st aP aF aH aO ps mn go vi h114_5 TP h121_5 T htp hTT hT (by decide) (Nat.zero_le _)) cv_X10_259 (by omega) h114_5 ⟨_, _, rfl⟩ ⟨rfl, rfl⟩ rfl hl.1 rfl (Nat.le_of_ble_eq_true rfl) ⟨Nat.zero_le _, Nat.zero_le _⟩ dX10_figure_40 (fun g_6 H locs q_6 hP hS => ?_)
    obtain ⟨at2_6, sp2_6, tk2_6, vl2_6, wr2_6, wa2_6, hNX_6, h114_6, f_6⟩ := q_6
    have h121_6 : g_6 121 = .inl (cy 1, 160, .inl (fun x9 => nI (TP x9))) := (f_6 121 (by omega)).trans h121_5
    have h125_6 : g_6 125 = .inl (cy 1, 201, .inl (fun x9 => nI (NS x9))) := (f_6 125 (by omega)).trans h125_5
    have h126_6 : g_6 126 = .inl (cy 1, 201, .inl (fun x9 => nI (NN x9))) := (f_6 126 (by omega)).trans h126_5
    have h127_6 : g_6 127 = .inl (cy 1, 5, .inl (fun x9 => nI (BG x9))) := (f_6 127 (by omega)).trans h127_5
    have h128_6 : g_6 128 = .inl (cy 1, 5, .inl (fun x9 => nI (RD x9))) := (f_6 128 (by omega)).trans h128_5
    have h129_6 : g_6 129 = .inl (cy 1, 5, .inl (fun x9 => nI ((va_up IT 0 0) x9))) := (f_6 129 (by omega)).trans h129_5
    have h122_6 : g_6 122 = .inl (cy 1, 8, .inl (fun x9 => nI (BY x9))) := (f_6 122 (by omega)).trans h122_5
    have h123_6 : g_6 123 = .inl (cy 1, 1600, .inl (fun x9 => nI (BS x9))) := (f_6 123 (by omega)).trans h123_5
    have h124_6 : g_6 124 = .inl (cy 1, 1600, .inl (fun x9 => nI (BN x9))) := (f_6 124 (by omega)).trans h124_5
    have hfr_6 : ∀ j : Nat, j ≠ 114 → j ≠ 129 → g_6 j = g j := fun j n0 n1 => (f_6 j n0).trans (hfr_5 j n0 n1)
    refine lv_iconst (v := nI (0)) hx hb dX10_figure_43 (by decide) ?_
    refine lv_istore_n (lv' := [(1, .int (nI (0))), (0, .ref (ad 114))]) hx hb dX10_figure_44 rfl hl (by decide) rfl (fun ls hl => ?_)
    have L45 : ∀ (fu : Nat) (i9 e9 nmA dpA atA spA tkA : Nat) (vlA : Int32) (wrA waA : Nat) (NSA NNA BGA RDA ITA : Nat → Nat), (TJ Fl FB fi T tp y0 i9 e9 nmA dpA NSA NNA BGA RDA ITA atA spA tkA vlA wrA waA) → (e9 ≤ 1) → (400 - i9) < fu → ∀ (g_7 : Nat → va_E) (H : Heap) (locs : List Loc), g_7 114 = mob ad (nI (n)) (nI (fa)) (nI (he)) (lN ov) (nI (un)) la bo (nI (tp)) ft (nI (wrA)) (nI (waA)) (nI (atA)) (nI (spA)) (nI (tkA)) vlA (nI (fi)) (nI (nmA)) (nI (dpA)) wy st (nI (aP)) (nI (aF)) (nI (aH)) (lN aO) (nI (ps)) (nI (mn)) go (nI (vi)) → g_7 125 = .inl (cy 1, 201, .inl (fun x9 => nI (NSA x9))) → g_7 126 = .inl (cy 1, 201, .inl (fun x9 => nI (NNA x9))) → g_7 127 = .inl (cy 1, 5, .inl (fun x9 => nI (BGA x9))) → g_7 128 = .inl (cy 1, 5, .inl (fun x9 => nI (RDA x9))) → g_7 129 = .inl (cy 1, 5, .inl (fun x9 => nI (ITA x9))) → (∀ j : Nat, j ≠ 114 → j ≠ 129 → j ≠ 125 → j ≠ 126 → j ≠ 127 → j ≠ 128 → g_7 j = g j) → MM D ad N g_7 H → va_S (AA ad N) s.heap H locs → ∀ (ls : Array Slot), lv_has ls 3 [(1, .int (nI (e9))), (0, .ref (ad 114))] → W p l e (rmF 3 70) s m [.ref (ad 114)].toArray below meth c H locs 0 0 (MQ below (QI (fun r g1 => ∃ (at2 : Nat), ∃ (sp2 : Nat), ∃ (tk2 : Nat), ∃ (vl2 : Int32), ∃ (wr2 : Nat), ∃ (wa2 : Nat), ∃ (nm2 : Nat), ∃ (dp2 : Nat), ∃ (NS2 : Nat → Nat), ∃ (NN2 : Nat → Nat), ∃ (BG2 : Nat → Nat), ∃ (RD2 : Nat → Nat), ∃ (IT2 : Nat → Nat), ∃ (BY2 : Nat → Nat), ∃ (BS2 : Nat → Nat), ∃ (BN2 : Nat → Nat), (r = if fi < 8 then (if tkF R9 = 0 then nI fi else -10 - nI (tkP R9)) else -3) ∧ (FR (if fi < 8 ∧ tkF R9 = 0 then fi + 1 else fi) BY2 BS2 BN2 (if fi < 8 ∧ tkF R9 = 0 then va_up Fl fi (pLen R9.2.1) else Fl) (if fi < 8 ∧ tkF R9 = 0 then va_up FB fi (cpB (pB R9.2.1) (FB fi)) else FB)) ∧ g1 114 = mob ad (nI (n)) (nI (fa)) (nI (he)) (lN ov) (nI (un)) la bo (nI (if fi < 8 then 0 else tp)) (if fi < 8 then nI (tkF R9) else ft) (nI (wr2)) (nI (wa2)) (nI (at2)) (nI (sp2)) (nI (tk2)) vl2 (nI (if fi < 8 ∧ tkF R9 = 0 then fi + 1 else fi)) (nI (nm2)) (nI (dp2)) wy st (nI (aP)) (nI (aF)) (nI (aH)) (lN aO) (nI (ps)) (nI (mn)) go (nI (vi)) ∧ g1 125 = .inl (cy 1, 201, .inl (fun x9 => nI (NS2 x9))) ∧ g1 126 = .inl (cy 1, 201, .inl (fun x9 => nI (NN2 x9))) ∧ g1 127 = .inl (cy 1, 5, .inl (fun x9 => nI (BG2 x9))) ∧ g1 128 = .inl (cy 1, 5, .inl (fun x9 => nI (RD2 x9))) ∧ g1 129 = .inl (cy 1, 5, .inl (fun x9 => nI (IT2 x9))) ∧ g1 122 = .inl (cy 1, 8, .inl (fun x9 => nI (BY2 x9))) ∧ g1 123 = .inl (cy 1, 1600, .inl (fun x9 => nI (BS2 x9))) ∧ g1 124 = .inl (cy 1, 1600, .inl (fun x9 => nI (BN2 x9))) ∧ (∀ j, j ≠ 114 → j ≠ 125 → j ≠ 126 → j ≠ 127 → j ≠ 128 → j ≠ 129 → j ≠ 122 → j ≠ 123 → j ≠ 124 → g1 j = g j)) D ad N) [.ref (ad 114)].toArray s 0 0 (AA ad N)) (F0 m 45 ls []) := by
      intro fu
      induction fu with
      | zero => intro i9 e9 nmA dpA atA spA tkA vlA wrA waA NSA NNA BGA RDA ITA hTJ hwb hms g_7 H locs h114_7 h125_7 h126_7 h127_7 h128_7 h129_7 hfr_7 hP hS ls hl; exact absurd hms (Nat.not_lt_zero _)
      | succ fu ih45 =>
        intro i9 e9 nmA dpA atA spA tkA vlA wrA waA NSA NNA BGA RDA ITA hTJ hwb hms g_7 H locs h114_7 h125_7 h126_7 h127_7 h128_7 h129_7 hfr_7 hP hS ls hl
        have h121_7 : g_7 121 = .inl (cy 1, 160, .inl (fun x9 => nI (TP x9))) := (hfr_7 121 (by omega) (by omega) (by omega) (by omega) (by omega) (by omega)).trans hTP
        have h122_7 : g_7 122 = .inl (cy 1, 8, .inl (fun x9 => nI (BY x9))) := (hfr_7 122 (by omega) (by omega) (by omega) (by omega) (by omega) (by omega)).trans hBY
        have h123_7 : g_7 123 = .inl (cy 1, 1600, .inl (fun x9 => nI (BS x9))) := (hfr_7 123 (by omega) (by omega) (by omega) (by omega) (by omega) (by omega)).trans hBS
        have h124_7 : g_7 124 = .inl (cy 1, 1600, .inl (fun x9 => nI (BN x9))) := (hfr_7 124 (by omega) (by omega) (by omega) (by omega) (by omega) (by omega)).trans hBN
        have hwc := TJ_w hTJ htp
        refine lv_aload_n hx hb dX10_figure_45 rfl (lv_at hl 1 rfl) ?_
        refine mg S hK hP (by omega) h114_7 fd_X10_225 rfl dX10_figure_46 ?_
        have J177 : (TX R9 nmA NSA NNA wrA waA) → ∀ (ls : Array Slot), lv_has ls 3 [(1, .int (nI (e9))), (0, .ref (ad 114))] → W p l e (rmF 3 70) s m [.ref (ad 114)].toArray below meth c H locs 0 0 (MQ below (QI (fun r g1 => ∃ (at2 : Nat), ∃ (sp2 : Nat), ∃ (tk2 : Nat), ∃ (vl2 : Int32), ∃ (wr2 : Nat), ∃ (wa2 : Nat), ∃ (nm2 : Nat), ∃ (dp2 : Nat), ∃ (NS2 : Nat → Nat), ∃ (NN2 : Nat → Nat), ∃ (BG2 : Nat → Nat), ∃ (RD2 : Nat → Nat), ∃ (IT2 : Nat → Nat), ∃ (BY2 : Nat → Nat), ∃ (BS2 : Nat → Nat), ∃ (BN2 : Nat → Nat), (r = if fi < 8 then (if tkF R9 = 0 then nI fi else -10 - nI (tkP R9)) else -3) ∧ (FR (if fi < 8 ∧ tkF R9 = 0 then fi + 1 else fi) BY2 BS2 BN2 (if fi < 8 ∧ tkF R9 = 0 then va_up Fl fi (pLen R9.2.1) else Fl) (if fi < 8 ∧ tkF R9 = 0 then va_up FB fi (cpB (pB R9.2.1) (FB fi)) else FB)) ∧ g1 114 = mob ad (nI (n)) (nI (fa)) (nI (he)) (lN ov) (nI (un)) la bo (nI (if fi < 8 then 0 else tp)) (if fi < 8 then nI (tkF R9) else ft) (nI (wr2)) (nI (wa2)) (nI (at2)) (nI (sp2)) (nI (tk2)) vl2 (nI (if fi < 8 ∧ tkF R9 = 0 then fi + 1 else fi)) (nI (nm2)) (nI (dp2)) wy st (nI (aP)) (nI (aF)) (nI (aH)) (lN aO) (nI (ps)) (nI (mn)) go (nI (vi)) ∧ g1 125 = .inl (cy 1, 201, .inl (fun x9 => nI (NS2 x9))) ∧ g1 126 = .inl (cy 1, 201, .inl (fun x9 => nI (NN2 x9))) ∧ g1 127 = .inl (cy 1, 5, .inl (fun x9 => nI (BG2 x9))) ∧ g1 128 = .inl (cy 1, 5, .inl (fun x9 => nI (RD2 x9))) ∧ g1 129 = .inl (cy 1, 5, .inl (fun x9 => nI (IT2 x9))) ∧ g1 122 = .inl (cy 1, 8, .inl (fun x9 => nI (BY2 x9))) ∧ g1 123 = .inl (cy 1, 1600, .inl (fun x9 => nI (BS2 x9))) ∧ g1 124 = .inl (cy 1, 1600, .inl (fun x9 => nI (BN2 x9))) ∧ (∀ j, j ≠ 114 → j ≠ 125 → j ≠ 126 → j ≠ 127 → j ≠ 128 → j ≠ 129 → j ≠ 122 → j ≠ 123 → j ≠ 124 → g1 j = g j)) D ad N) [.ref (ad 114)].toArray s 0 0 (AA ad N)) (F0 m 177 ls []) := by
          intro hTX ls hl
          refine lv_aload_n hx hb dX10_figure_177 rfl (lv_at hl 1 rfl) ?_
          refine mg S hK hP (by omega) h114_7 fd_X10_225 rfl dX10_figure_178 ?_
          have J204 : ∀ (spB wrB waB : Nat), ((wrB = tkF R9 ∧ wrB ≤ 5) ∧ (¬ wrB = 0 → waB = tkP R9) ∧ (wrB = 0 → pOv R9.2.1 = 0 ∧ nmA = pLen R9.2.1 ∧ nmA ≤ 200 ∧ NRt (pLen R9.2.1) (pB R9.2.1) (pOv R9.2.1) nmA NSA NNA)) → ∀ (g_8 : Nat → va_E) (H : Heap) (locs : List Loc), g_8 114 = mob ad (nI (n)) (nI (fa)) (nI (he)) (lN ov) (nI (un)) la bo (nI (tp)) ft (nI (wrB)) (nI (waB)) (nI (atA)) (nI (spB)) (nI (tkA)) vlA (nI (fi)) (nI (nmA)) (nI (dpA)) wy st (nI (aP)) (nI (aF)) (nI (aH)) (lN aO) (nI (ps)) (nI (mn)) go (nI (vi)) → g_8 125 = .inl (cy 1, 201, .inl (fun x9 => nI (NSA x9))) → g_8 126 = .inl (cy 1, 201, .inl (fun x9 => nI (NNA x9))) → g_8 127 = .inl (cy 1, 5, .inl (fun x9 => nI (BGA x9))) → g_8 128 = .inl (cy 1, 5, .inl (fun x9 => nI (RDA x9))) → g_8 129 = .inl (cy 1, 5, .inl (fun x9 => nI (ITA x9))) → (∀ j : Nat, j ≠ 114 → j ≠ 129 → j ≠ 125 → j ≠ 126 → j ≠ 127 → j ≠ 128 → g_8 j = g j) → MM D ad N g_8 H → va_S (AA ad N) s.heap H locs → ∀ (ls : Array Slot), lv_has ls 3 [(1, .int (nI (e9))), (0, .ref (ad 114))] → W p l e (rmF 3 70) s m [.ref (ad 114)].toArray below meth c H locs 0 0 (MQ below (QI (fun r g1 => ∃ (at2 : Nat), ∃ (sp2 : Nat), ∃ (tk2 : Nat), ∃ (vl2 : Int32), ∃ (wr2 : Nat), ∃ (wa2 : Nat), ∃ (nm2 : Nat), ∃ (dp2 : Nat), ∃ (NS2 : Nat → Nat), ∃ (NN2 : Nat → Nat), ∃ (BG2 : Nat → Nat), ∃ (RD2 : Nat → Nat), ∃ (IT2 : Nat → Nat), ∃ (BY2 : Nat → Nat), ∃ (BS2 : Nat → Nat), ∃ (BN2 : Nat → Nat), (r = if fi < 8 then (if tkF R9 = 0 then nI fi else -10 - nI (tkP R9)) else -3) ∧ (FR (if fi < 8 ∧ tkF R9 = 0 then fi + 1 else fi) BY2 BS2 BN2 (if fi < 8 ∧ tkF R9 = 0 then va_up Fl fi (pLen R9.2.1) else Fl) (if fi < 8 ∧ tkF R9 = 0 then va_up FB fi (cpB (pB R9.2.1) (FB fi)) else FB)) ∧ g1 114 = mob ad (nI (n)) (nI (fa)) (nI (he)) (lN ov) (nI (un)) la bo (nI (if fi < 8 then 0 else tp)) (if fi < 8 then nI (tkF R9) else ft) (nI (wr2)) (nI (wa2)) (nI (at2)) (nI (sp2)) (nI (tk2)) vl2 (nI (if fi < 8 ∧ tkF R9 = 0 then fi + 1 else fi)) (nI (nm2)) (nI (dp2)) wy st (nI (aP)) (nI (aF)) (nI (aH)) (lN aO) (nI (ps)) (nI (mn)) go (nI (vi)) ∧ g1 125 = .inl (cy 1, 201, .inl (fun x9 => nI (NS2 x9))) ∧ g1 126 = .inl (cy 1, 201, .inl (fun x9 => nI (NN2 x9))) ∧ g1 127 = .inl (cy 1, 5, .inl (fun x9 => nI (BG2 x9))) ∧ g1 128 = .inl (cy 1, 5, .inl (fun x9 => nI (RD2 x9))) ∧ g1 129 = .inl (cy 1, 5, .inl (fun x9 => nI (IT2 x9))) ∧ g1 122 = .inl (cy 1, 8, .inl (fun x9 => nI (BY2 x9))) ∧ g1 123 = .inl (cy 1, 1600, .inl (fun x9 => nI (BS2 x9))) ∧ g1 124 = .inl (cy 1, 1600, .inl (fun x9 => nI (BN2 x9))) ∧ (∀ j, j ≠ 114 → j ≠ 125 → j ≠ 126 → j ≠ 127 → j ≠ 128 → j ≠ 129 → j ≠ 122 → j ≠ 123 → j ≠ 124 → g1 j = g j)) D ad N) [.ref (ad 114)].toArray s 0 0 (AA ad N)) (F0 m 204 ls []) := by
            intro spB wrB waB hB g_8 H locs h114_8 h125_8 h126_8 h127_8 h128_8 h129_8 hfr_8 hP hS ls hl
            have h121_8 : g_8 121 = .inl (cy 1, 160, .inl (fun x9 => nI (TP x9))) := (hfr_8 121 (by omega) (by omega) (by omega) (by omega) (by omega) (by omega)).trans hTP
            have h122_8 : g_8 122 = .inl (cy 1, 8, .inl (fun x9 => nI (BY x9))) := (hfr_8 122 (by omega) (by omega) (by omega) (by omega) (by omega) (by omega)).trans hBY
            have h123_8 : g_8 123 = .inl (cy 1, 1600, .inl (fun x9 => nI (BS x9))) := (hfr_8 123 (by omega) (by omega) (by omega) (by omega) (by omega) (by omega)).trans hBS
            have h124_8 : g_8 124 = .inl (cy 1, 1600, .inl (fun x9 => nI (BN x9))) := (hfr_8 124 (by omega) (by omega) (by omega) (by omega) (by omega) (by omega)).trans hBN
            refine lv_aload_n hx hb dX10_figure_204 rfl (lv_at hl 1 rfl) ?_
            refine lv_iconst (v := nI (0)) hx hb dX10_figure_205 (by decide) ?_
            refine mp S hK hP hI hS (by omega) h114_8 fd_X10_222 rfl rfl (Nat.le_of_ble_eq_true rfl) dX10_figure_206 (fun g_9 H locs eg_9 hP hS => ?_)
            have h114_9 : g_9 114 = mob ad (nI (n)) (nI (fa)) (nI (he)) (lN ov) (nI (un)) la bo (nI (0)) ft (nI (wrB)) (nI (waB)) (nI (atA)) (nI (spB)) (nI (tkA)) vlA (nI (fi)) (nI (nmA)) (nI (dpA)) wy st (nI (aP)) (nI (aF)) (nI (aH)) (lN aO) (nI (ps)) (nI (mn)) go (nI (vi)) := by rw [eg_9, va_up_self]; exact rfl
            have h121_9 : g_9 121 = .inl (cy 1, 160, .inl (fun x9 => nI (TP x9))) := ((congrFun eg_9 _).trans (va_up_ne _ _ (by omega))).trans h121_8
            have h125_9 : g_9 125 = .inl (cy 1, 201, .inl (fun x9 => nI (NSA x9))) := ((congrFun eg_9 _).trans (va_up_ne _ _ (by omega))).trans h125_8
            have h126_9 : g_9 126 = .inl (cy 1, 201, .inl (fun x9 => nI (NNA x9))) := ((congrFun eg_9 _).trans (va_up_ne _ _ (by omega))).trans h126_8
            have h127_9 : g_9 127 = .inl (cy 1, 5, .inl (fun x9 => nI (BGA x9))) := ((congrFun eg_9 _).trans (va_up_ne _ _ (by omega))).trans h127_8
            have h128_9 : g_9 128 = .inl (cy 1, 5, .inl (fun x9 => nI (RDA x9))) := ((congrFun eg_9 _).trans (va_up_ne _ _ (by omega))).trans h128_8
            have h129_9 : g_9 129 = .inl (cy 1, 5, .inl (fun x9 => nI (ITA x9))) := ((congrFun eg_9 _).trans (va_up_ne _ _ (by omega))).trans h129_8
            have h122_9 : g_9 122 = .inl (cy 1, 8, .inl (fun x9 => nI (BY x9))) := ((congrFun eg_9 _).trans (va_up_ne _ _ (by omega))).trans h122_8
            have h123_9 : g_9 123 = .inl (cy 1, 1600, .inl (fun x9 => nI (BS x9))) := ((congrFun eg_9 _).trans (va_up_ne _ _ (by omega))).trans h123_8
            have h124_9 : g_9 124 = .inl (cy 1, 1600, .inl (fun x9 => nI (BN x9))) := ((congrFun eg_9 _).trans (va_up_ne _ _ (by omega))).trans h124_8
            have hfr_9 : ∀ j : Nat, j ≠ 114 → j ≠ 129 → j ≠ 125 → j ≠ 126 → j ≠ 127 → j ≠ 128 → g_9 j = g j := fun j n0 n1 n2 n3 n4 n5 => ((congrFun eg_9 _).trans (va_up_ne _ _ n0)).trans (hfr_8 j n0 n1 n2 n3 n4 n5)
            refine lv_aload_n hx hb dX10_figure_209 rfl (lv_at hl 1 rfl) ?_
            refine lv_aload_n hx hb dX10_figure_210 rfl (lv_at hl 1 rfl) ?_
            refine mg S hK hP (by omega) h114_9 fd_X10_225 rfl dX10_figure_211 ?_
            refine mp S hK hP hI hS (by omega) h114_9 fd_X10_283 rfl rfl (Nat.le_of_ble_eq_true rfl) dX10_figure_214 (fun g_10 H locs eg_10 hP hS => ?_)
            have h114_10 : g_10 114 = mob ad (nI (n)) (nI (fa)) (nI (he)) (lN ov) (nI (un)) la bo (nI (0)) (nI (wrB)) (nI (wrB)) (nI (waB)) (nI (atA)) (nI (spB)) (nI (tkA)) vlA (nI (fi)) (nI (nmA)) (nI (dpA)) wy st (nI (aP)) (nI (aF)) (nI (aH)) (lN aO) (nI (ps)) (nI (mn)) go (nI (vi)) := by rw [eg_10, va_up_self]; exact rfl
            have h121_10 : g_10 121 = .inl (cy 1, 160, .inl (fun x9 => nI (TP x9))) := ((congrFun eg_10 _).trans (va_up_ne _ _ (by omega))).trans h121_9
            have h125_10 : g_10 125 = .inl (cy 1, 201, .inl (fun x9 => nI (NSA x9))) := ((congrFun eg_10 _).trans (va_up_ne _ _ (by omega))).trans h125_9
            have h126_10 : g_10 126 = .inl (cy 1, 201, .inl (fun x9 => nI (NNA x9))) := ((congrFun eg_10 _).trans (va_up_ne _ _ (by omega))).trans h126_9
            have h127_10 : g_10 127 = .inl (cy 1, 5, .inl (fun x9 => nI (BGA x9))) := ((congrFun eg_10 _).trans (va_up_ne _ _ (by omega))).trans h127_9
            have h128_10 : g_10 128 = .inl (cy 1, 5, .inl (fun x9 => nI (RDA x9))) := ((congrFun eg_10 _).trans (va_up_ne _ _ (by omega))).trans h128_9
            have h129_10 : g_10 129 = .inl (cy 1, 5, .inl (fun x9 => nI (ITA x9))) := ((congrFun eg_10 _).trans (va_up_ne _ _ (by omega))).trans h129_9
            have h122_10 : g_10 122 = .inl (cy 1, 8, .inl (fun x9 => nI (BY x9))) := ((congrFun eg_10 _).trans (va_up_ne _ _ (by omega))).trans h122_9
            have h123_10 : g_10 123 = .inl (cy 1, 1600, .inl (fun x9 => nI (BS x9))) := ((congrFun eg_10 _).trans (va_up_ne _ _ (by omega))).trans h123_9
            have h124_10 : g_10 124 = .inl (cy 1, 1600, .inl (fun x9 => nI (BN x9))) := ((congrFun eg_10 _).trans (va_up_ne _ _ (by omega))).trans h124_9
            have hfr_10 : ∀ j : Nat, j ≠ 114 → j ≠ 129 → j ≠ 125 → j ≠ 126 → j ≠ 127 → j ≠ 128 → g_10 j = g j := fun j n0 n1 n2 n3 n4 n5 => ((congrFun eg_10 _).trans (va_up_ne _ _ n0)).trans (hfr_9 j n0 n1 n2 n3 n4 n5)
            refine lv_aload_n hx hb dX10_figure_217 rfl (lv_at hl 1 rfl) ?_
            refine mg S hK hP (by omega) h114_10 fd_X10_225 rfl dX10_figure_218 ?_
            refine lv_if_le (tgt := 232) hx hb dX10_figure_221 (by decide) (fun c_221 => ?_) (fun c_221 => ?_)
            · skip
              have c_221 := (z_le (by omega)).mp c_221
              have hw0 : wrB = 0 := by omega
              have hF0 : tkF R9 = 0 := by rw [← hB.1.1]; exact hw0
              have hB3 := hB.2.2 hw0
              refine lv_aload_n hx hb dX10_figure_232 rfl (lv_at hl 1 rfl) ?_
              refine mg S hK hP (by omega) h114_10 fd_X10_42 rfl dX10_figure_233 ?_
              refine lv_aload_n hx hb dX10_figure_236 rfl (lv_at hl 1 rfl) ?_
              refine mg S hK hP (by omega) h114_10 fd_X10_262 rfl dX10_figure_237 ?_
              refine lv_aload_n hx hb dX10_figure_240 rfl (lv_at hl 1 rfl) ?_
              refine mg S hK hP (by omega) h114_10 fd_X10_256 rfl dX10_figure_241 ?_
              refine mias S hK hP hI hS (by omega) h122_10 (vp_in_nI (by omega) (by omega)) dX10_figure_244 (fun g_11 H locs eg_11 hP hS => ?_)
              have h122_11 : g_11 122 = .inl (cy 1, 8, .inl (fun x9 => nI ((va_up BY fi nmA) x9))) := by rw [eg_11, va_up_self]; exact (arrN_up (by omega))
              have h114_11 : g_11 114 = mob ad (nI (n)) (nI (fa)) (nI (he)) (lN ov) (nI (un)) la bo (nI (0)) (nI (wrB)) (nI (wrB)) (nI (waB)) (nI (atA)) (nI (spB)) (nI (tkA)) vlA (nI (fi)) (nI (nmA)) (nI (dpA)) wy st (nI (aP)) (nI (aF)) (nI (aH)) (lN aO) (nI (ps)) (nI (mn)) go (nI (vi)) := ((congrFun eg_11 _).trans (va_up_ne _ _ (by omega))).trans h114_10
              have h121_11 : g_11 121 = .inl (cy 1, 160, .inl (fun x9 => nI (TP x9))) := ((congrFun eg_11 _).trans (va_up_ne _ _ (by omega))).trans h121_10
              have h125_11 : g_11 125 = .inl (cy 1, 201, .inl (fun x9 => nI (NSA x9))) := ((congrFun eg_11 _).trans (va_up_ne _ _ (by omega))).trans h125_10
              have h126_11 : g_11 126 = .inl (cy 1, 201, .inl (fun x9 => nI (NNA x9))) := ((congrFun eg_11 _).trans (va_up_ne _ _ (by omega))).trans h126_10
              have h127_11 : g_11 127 = .inl (cy 1, 5, .inl (fun x9 => nI (BGA x9))) := ((congrFun eg_11 _).trans (va_up_ne _ _ (by omega))).trans h127_10
              have h128_11 : g_11 128 = .inl (cy 1, 5, .inl (fun x9 => nI (RDA x9))) := ((congrFun eg_11 _).trans (va_up_ne _ _ (by omega))).trans h128_10
              have h129_11 : g_11 129 = .inl (cy 1, 5, .inl (fun x9 => nI (ITA x9))) := ((congrFun eg_11 _).trans (va_up_ne _ _ (by omega))).trans h129_10
              have h123_11 : g_11 123 = .inl (cy 1, 1600, .inl (fun x9 => nI (BS x9))) := ((congrFun eg_11 _).trans (va_up_ne _ _ (by omega))).trans h123_10
              have h124_11 : g_11 124 = .inl (cy 1, 1600, .inl (fun x9 => nI (BN x9))) := ((congrFun eg_11 _).trans (va_up_ne _ _ (by omega))).trans h124_10
              have hfr_11 : ∀ j : Nat, j ≠ 114 → j ≠ 129 → j ≠ 125 → j ≠ 126 → j ≠ 127 → j ≠ 128 → j ≠ 122 → g_11 j = g j := fun j n0 n1 n2 n3 n4 n5 n6 => ((congrFun eg_11 _).trans (va_up_ne _ _ n6)).trans (hfr_10 j n0 n1 n2 n3 n4 n5)
              refine lv_iconst (v := nI (0)) hx hb dX10_figure_245 (by decide) ?_
              refine lv_istore_n (lv' := [(2, .int (nI (0))), (1, .int (nI (e9))), (0, .ref (ad 114))]) hx hb dX10_figure_246 rfl hl (by decide) rfl (fun ls hl => ?_)
              have L247 : ∀ (fu : Nat) (c9 : Nat) (BSc BNc : Nat → Nat), (c9 ≤ nmA) → (FC fi (va_up BY fi nmA) BSc BNc Fl FB NSA NNA c9) → (nmA - c9) < fu → ∀ (g_12 : Nat → va_E) (H : Heap) (locs : List Loc), g_12 114 = mob ad (nI (n)) (nI (fa)) (nI (he)) (lN ov) (nI (un)) la bo (nI (0)) (nI (wrB)) (nI (wrB)) (nI (waB)) (nI (atA)) (nI (spB)) (nI (tkA)) vlA (nI (fi)) (nI (nmA)) (nI (dpA)) wy st (nI (aP)) (nI (aF)) (nI (aH)) (lN aO) (nI (ps)) (nI (mn)) go (nI (vi)) → g_12 125 = .inl (cy 1, 201, .inl (fun x9 => nI (NSA x9))) → g_12 126 = .inl (cy 1, 201, .inl (fun x9 => nI (NNA x9))) → g_12 127 = .inl (cy 1, 5, .inl (fun x9 => nI (BGA x9))) → g_12 128 = .inl (cy 1, 5, .inl (fun x9 => nI (RDA x9))) → g_12 129 = .inl (cy 1, 5, .inl (fun x9 => nI (ITA x9))) → g_12 122 = .inl (cy 1, 8, .inl (fun x9 => nI ((va_up BY fi nmA) x9))) → g_12 123 = .inl (cy 1, 1600, .inl (fun x9 => nI (BSc x9))) → g_12 124 = .inl (cy 1, 1600, .inl (fun x9 => nI (BNc x9))) → (∀ j : Nat, j ≠ 114 → j ≠ 129 → j ≠ 125 → j ≠ 126 → j ≠ 127 → j ≠ 128 → j ≠ 122 → j ≠ 123 → j ≠ 124 → g_12 j = g j) → MM D ad N g_12 H → va_S (AA ad N) s.heap H locs → ∀ (ls : Array Slot), lv_has ls 3 [(2, .int (nI (c9))), (1, .int (nI (e9))), (0, .ref (ad 114))] → W p l e (rmF 3 70) s m [.ref (ad 114)].toArray below meth c H locs 0 0 (MQ below (QI (fun r g1 => ∃ (at2 : Nat), ∃ (sp2 : Nat), ∃ (tk2 : Nat), ∃ (vl2 : Int32), ∃ (wr2 : Nat), ∃ (wa2 : Nat), ∃ (nm2 : Nat), ∃ (dp2 : Nat), ∃ (NS2 : Nat → Nat), ∃ (NN2 : Nat → Nat), ∃ (BG2 : Nat → Nat), ∃ (RD2 : Nat → Nat), ∃ (IT2 : Nat → Nat), ∃ (BY2 : Nat → Nat), ∃ (BS2 : Nat → Nat), ∃ (BN2 : Nat → Nat), (r = if fi < 8 then (if tkF R9 = 0 then nI fi else -10 - nI (tkP R9)) else -3) ∧ (FR (if fi < 8 ∧ tkF R9 = 0 then fi + 1 else fi) BY2 BS2 BN2 (if fi < 8 ∧ tkF R9 = 0 then va_up Fl fi (pLen R9.2.1) else Fl) (if fi < 8 ∧ tkF R9 = 0 then va_up FB fi (cpB (pB R9.2.1) (FB fi)) else FB)) ∧ g1 114 = mob ad (nI (n)) (nI (fa)) (nI (he)) (lN ov) (nI (un)) la bo (nI (if fi < 8 then 0 else tp)) (if fi < 8 then nI (tkF R9) else ft) (nI (wr2)) (nI (wa2)) (nI (at2)) (nI (sp2)) (nI (tk2)) vl2 (nI (if fi < 8 ∧ tkF R9 = 0 then fi + 1 else fi)) (nI (nm2)) (nI (dp2)) wy st (nI (aP)) (nI (aF)) (nI (aH)) (lN aO) (nI (ps)) (nI (mn)) go (nI (vi)) ∧ g1 125 = .inl (cy 1, 201, .inl (fun x9 => nI (NS2 x9))) ∧ g1 126 = .inl (cy 1, 201, .inl (fun x9 => nI (NN2 x9))) ∧ g1 127 = .inl (cy 1, 5, .inl (fun x9 => nI (BG2 x9))) ∧ g1 128 = .inl (cy 1, 5, .inl (fun x9 => nI (RD2 x9))) ∧ g1 129 = .inl (cy 1, 5, .inl (fun x9 => nI (IT2 x9))) ∧ g1 122 = .inl (cy 1, 8, .inl (fun x9 => nI (BY2 x9))) ∧ g1 123 = .inl (cy 1, 1600, .inl (fun x9 => nI (BS2 x9))) ∧ g1 124 = .inl (cy 1, 1600, .inl (fun x9 => nI (BN2 x9))) ∧ (∀ j, j ≠ 114 → j ≠ 125 → j ≠ 126 → j ≠ 127 → j ≠ 128 → j ≠ 129 → j ≠ 122 → j ≠ 123 → j ≠ 124 → g1 j = g j)) D ad N) [.ref (ad 114)].toArray s 0 0 (AA ad N)) (F0 m 247 ls []) := by
                intro fu
                induction fu with
                | zero => intro c9 BSc BNc hc9 hFC hms g_12 H locs h114_12 h125_12 h126_12 h127_12 h128_12 h129_12 h122_12 h123_12 h124_12 hfr_12 hP hS ls hl; exact absurd hms (Nat.not_lt_zero _)
                | succ fu ih247 =>
                  intro c9 BSc BNc hc9 hFC hms g_12 H locs h114_12 h125_12 h126_12 h127_12 h128_12 h129_12 h122_12 h123_12 h124_12 hfr_12 hP hS ls hl
                  have h121_12 : g_12 121 = .inl (cy 1, 160, .inl (fun x9 => nI (TP x9))) := (hfr_12 121 (by omega) (by omega) (by omega) (by omega) (by omega) (by omega) (by omega) (by omega) (by omega)).trans hTP
                  refine lv_iload_n hx hb dX10_figure_247 rfl (lv_at hl 0 rfl) ?_
                  refine lv_aload_n hx hb dX10_figure_248 rfl (lv_at hl 2 rfl) ?_
                  refine mg S hK hP (by omega) h114_12 fd_X10_256 rfl dX10_figure_249 ?_
                  refine lv_icmp_ge (tgt := 303) hx hb dX10_figure_252 (by decide) (fun c_252 => ?_) (fun c_252 => ?_)
                  · skip
                    have c_252 := (nI_leI (by omega) (by omega)).mp c_252
                    refine lv_aload_n hx hb dX10_figure_303 rfl (lv_at hl 2 rfl) ?_
                    refine lv_dup hx hb dX10_figure_304 rfl ?_
                    refine mg S hK hP (by omega) h114_12 fd_X10_262 rfl dX10_figure_305 ?_
                    refine lv_iconst (v := nI (1)) hx hb dX10_figure_308 (by decide) ?_
                    refine lv_iadd hx hb dX10_figure_309 ?_
                    refine tpi (nI_add fi 1) ?_
                    refine mp S hK hP hI hS (by omega) h114_12 fd_X10_262 rfl rfl (Nat.le_of_ble_eq_true rfl) dX10_figure_310 (fun g_13 H locs eg_13 hP hS => ?_)
                    have h114_13 : g_13 114 = mob ad (nI (n)) (nI (fa)) (nI (he)) (lN ov) (nI (un)) la bo (nI (0)) (nI (wrB)) (nI (wrB)) (nI (waB)) (nI (atA)) (nI (spB)) (nI (tkA)) vlA (nI (fi + 1)) (nI (nmA)) (nI (dpA)) wy st (nI (aP)) (nI (aF)) (nI (aH)) (lN aO) (nI (ps)) (nI (mn)) go (nI (vi)) := by rw [eg_13, va_up_self]; exact rfl
                    have h121_13 : g_13 121 = .inl (cy 1, 160, .inl (fun x9 => nI (TP x9))) := ((congrFun eg_13 _).trans (va_up_ne _ _ (by omega))).trans h121_12
                    have h125_13 : g_13 125 = .inl (cy 1, 201, .inl (fun x9 => nI (NSA x9))) := ((congrFun eg_13 _).trans (va_up_ne _ _ (by omega))).trans h125_12
                    have h126_13 : g_13 126 = .inl (cy 1, 201, .inl (fun x9 => nI (NNA x9))) := ((congrFun eg_13 _).trans (va_up_ne _ _ (by omega))).trans h126_12
                    have h127_13 : g_13 127 = .inl (cy 1, 5, .inl (fun x9 => nI (BGA x9))) := ((congrFun eg_13 _).trans (va_up_ne _ _ (by omega))).trans h127_12
                    have h128_13 : g_13 128 = .inl (cy 1, 5, .inl (fun x9 => nI (RDA x9))) := ((congrFun eg_13 _).trans (va_up_ne _ _ (by omega))).trans h128_12
                    have h129_13 : g_13 129 = .inl (cy 1, 5, .inl (fun x9 => nI (ITA x9))) := ((congrFun eg_13 _).trans (va_up_ne _ _ (by omega))).trans h129_12
                    have h122_13 : g_13 122 = .inl (cy 1, 8, .inl (fun x9 => nI ((va_up BY fi nmA) x9))) := ((congrFun eg_13 _).trans (va_up_ne _ _ (by omega))).trans h122_12
                    have h123_13 : g_13 123 = .inl (cy 1, 1600, .inl (fun x9 => nI (BSc x9))) := ((congrFun eg_13 _).trans (va_up_ne _ _ (by omega))).trans h123_12
                    have h124_13 : g_13 124 = .inl (cy 1, 1600, .inl (fun x9 => nI (BNc x9))) := ((congrFun eg_13 _).trans (va_up_ne _ _ (by omega))).trans h124_12
                    have hfr_13 : ∀ j : Nat, j ≠ 114 → j ≠ 129 → j ≠ 125 → j ≠ 126 → j ≠ 127 → j ≠ 128 → j ≠ 122 → j ≠ 123 → j ≠ 124 → g_13 j = g j := fun j n0 n1 n2 n3 n4 n5 n6 n7 n8 => ((congrFun eg_13 _).trans (va_up_ne _ _ n0)).trans (hfr_12 j n0 n1 n2 n3 n4 n5 n6 n7 n8)
                    refine lv_aload_n hx hb dX10_figure_313 rfl (lv_at hl 2 rfl) ?_
                    refine mg S hK hP (by omega) h114_13 fd_X10_262 rfl dX10_figure_314 ?_
                    refine lv_iconst (v := nI (1)) hx hb dX10_figure_317 (by decide) ?_
                    refine lv_isub hx hb dX10_figure_318 ?_
                    refine tpi (pk_sub (a := fi + 1) (b := 1) (by omega)) ?_
                    exact rMi S hr hlk hP hS ⟨_, _, _, _, _, _, _, _, _, _, _, _, _, _, _, _, (by rw [if_pos hfi8, if_pos hF0, Nat.add_sub_cancel]), (by rw [if_pos ⟨hfi8, hF0⟩, if_pos ⟨hfi8, hF0⟩, if_pos ⟨hfi8, hF0⟩, ← hB3.2.1]; have e : c9 = nmA := (by omega); rw [e] at hFC; have q := FC_e (B2 := FB fi) hFC hB3.2.2.2 hB3.1; rw [← hB3.2.1] at q; exact q), (by rw [if_pos hfi8, if_pos hfi8, if_pos ⟨hfi8, hF0⟩, ← hB.1.1]; exact h114_13), h125_13, h126_13, h127_13, h128_13, h129_13, h122_13, h123_13, h124_13, (fun j n0 n1 n2 n3 n4 n5 n6 n7 n8 => hfr_13 j (by omega) (by omega) (by omega) (by omega) (by omega) (by omega) (by omega) (by omega) (by omega))⟩ dX10_figure_319
                  · skip
                    have c_252 := (not_congr (nI_leI (by omega) (by omega))).mp c_252
                    refine lv_aload_n hx hb dX10_figure_255 rfl (lv_at hl 2 rfl) ?_
                    refine mg S hK hP (by omega) h114_12 fd_X10_45 rfl dX10_figure_256 ?_
                    refine lv_sipush (v := nI (200)) hx hb dX10_figure_259 (by decide) ?_
                    refine lv_aload_n hx hb dX10_figure_262 rfl (lv_at hl 2 rfl) ?_
                    refine mg S hK hP (by omega) h114_12 fd_X10_262 rfl dX10_figure_263 ?_
                    refine lv_imul hx hb dX10_figure_266 ?_
                    refine tpi (pk_mul 200 fi) ?_
                    refine lv_iload_n hx hb dX10_figure_267 rfl (lv_at hl 0 rfl) ?_
                    refine lv_iadd hx hb dX10_figure_268 ?_
                    refine tpi (nI_add (200 * fi) c9) ?_
                    refine lv_aload_n hx hb dX10_figure_269 rfl (lv_at hl 2 rfl) ?_
                    refine mg S hK hP (by omega) h114_12 fd_X10_51 rfl dX10_figure_270 ?_
                    refine lv_iload_n hx hb dX10_figure_273 rfl (lv_at hl 0 rfl) ?_
                    refine mial S hK hP (by omega) h125_12 (vp_in_nI (by omega) (by omega)) dX10_figure_274 ?_
                    refine tpi (congrArg ((fun x9 => nI (NSA x9))) (nI_clamp (by omega))) ?_
                    refine mias S hK hP hI hS (by omega) h123_12 (vp_in_nI (by omega) (by omega)) dX10_figure_275 (fun g_14 H locs eg_14 hP hS => ?_)
                    have h123_14 : g_14 123 = .inl (cy 1, 1600, .inl (fun x9 => nI ((va_up BSc ((200 * fi) + c9) (NSA c9)) x9))) := by rw [eg_14, va_up_self]; exact (arrN_up (by omega))
                    have h114_14 : g_14 114 = mob ad (nI (n)) (nI (fa)) (nI (he)) (lN ov) (nI (un)) la bo (nI (0)) (nI (wrB)) (nI (wrB)) (nI (waB)) (nI (atA)) (nI (spB)) (nI (tkA)) vlA (nI (fi)) (nI (nmA)) (nI (dpA)) wy st (nI (aP)) (nI (aF)) (nI (aH)) (lN aO) (nI (ps)) (nI (mn)) go (nI (vi)) := ((congrFun eg_14 _).trans (va_up_ne _ _ (by omega))).trans h114_12
                    have h121_14 : g_14 121 = .inl (cy 1, 160, .inl (fun x9 => nI (TP x9))) := ((congrFun eg_14 _).trans (va_up_ne _ _ (by omega))).trans h121_12
                    have h125_14 : g_14 125 = .inl (cy 1, 201, .inl (fun x9 => nI (NSA x9))) := ((congrFun eg_14 _).trans (va_up_ne _ _ (by omega))).trans h125_12
                    have h126_14 : g_14 126 = .inl (cy 1, 201, .inl (fun x9 => nI (NNA x9))) := ((congrFun eg_14 _).trans (va_up_ne _ _ (by omega))).trans h126_12
                    have h127_14 : g_14 127 = .inl (cy 1, 5, .inl (fun x9 => nI (BGA x9))) := ((congrFun eg_14 _).trans (va_up_ne _ _ (by omega))).trans h127_12
                    have h128_14 : g_14 128 = .inl (cy 1, 5, .inl (fun x9 => nI (RDA x9))) := ((congrFun eg_14 _).trans (va_up_ne _ _ (by omega))).trans h128_12
                    have h129_14 : g_14 129 = .inl (cy 1, 5, .inl (fun x9 => nI (ITA x9))) := ((congrFun eg_14 _).trans (va_up_ne _ _ (by omega))).trans h129_12
                    have h122_14 : g_14 122 = .inl (cy 1, 8, .inl (fun x9 => nI ((va_up BY fi nmA) x9))) := ((congrFun eg_14 _).trans (va_up_ne _ _ (by omega))).trans h122_12
                    have h124_14 : g_14 124 = .inl (cy 1, 1600, .inl (fun x9 => nI (BNc x9))) := ((congrFun eg_14 _).trans (va_up_ne _ _ (by omega))).trans h124_12
                    have hfr_14 : ∀ j : Nat, j ≠ 114 → j ≠ 129 → j ≠ 125 → j ≠ 126 → j ≠ 127 → j ≠ 128 → j ≠ 122 → j ≠ 123 → j ≠ 124 → g_14 j = g j := fun j n0 n1 n2 n3 n4 n5 n6 n7 n8 => ((congrFun eg_14 _).trans (va_up_ne _ _ n7)).trans (hfr_12 j n0 n1 n2 n3 n4 n5 n6 n7 n8)
                    refine lv_aload_n hx hb dX10_figure_276 rfl (lv_at hl 2 rfl) ?_
                    refine mg S hK hP (by omega) h114_14 fd_X10_48 rfl dX10_figure_277 ?_
                    refine lv_sipush (v := nI (200)) hx hb dX10_figure_280 (by decide) ?_
                    refine lv_aload_n hx hb dX10_figure_283 rfl (lv_at hl 2 rfl) ?_
                    refine mg S hK hP (by omega) h114_14 fd_X10_262 rfl dX10_figure_284 ?_
                    refine lv_imul hx hb dX10_figure_287 ?_
                    refine tpi (pk_mul 200 fi) ?_
                    refine lv_iload_n hx hb dX10_figure_288 rfl (lv_at hl 0 rfl) ?_
                    refine lv_iadd hx hb dX10_figure_289 ?_
                    refine tpi (nI_add (200 * fi) c9) ?_
                    refine lv_aload_n hx hb dX10_figure_290 rfl (lv_at hl 2 rfl) ?_
                    refine mg S hK hP (by omega) h114_14 fd_X10_54 rfl dX10_figure_291 ?_
                    refine lv_iload_n hx hb dX10_figure_294 rfl (lv_at hl 0 rfl) ?_
                    refine mial S hK hP (by omega) h126_14 (vp_in_nI (by omega) (by omega)) dX10_figure_295 ?_
                    refine tpi (congrArg ((fun x9 => nI (NNA x9))) (nI_clamp (by omega))) ?_
                    refine mias S hK hP hI hS (by omega) h124_14 (vp_in_nI (by omega) (by omega)) dX10_figure_296 (fun g_15 H locs eg_15 hP hS => ?_)
                    have h124_15 : g_15 124 = .inl (cy 1, 1600, .inl (fun x9 => nI ((va_up BNc ((200 * fi) + c9) (NNA c9)) x9))) := by rw [eg_15, va_up_self]; exact (arrN_up (by omega))
                    have h114_15 : g_15 114 = mob ad (nI (n)) (nI (fa)) (nI (he)) (lN ov) (nI (un)) la bo (nI (0)) (nI (wrB)) (nI (wrB)) (nI (waB)) (nI (atA)) (nI (spB)) (nI (tkA)) vlA (nI (fi)) (nI (nmA)) (nI (dpA)) wy st (nI (aP)) (nI (aF)) (nI (aH)) (lN aO) (nI (ps)) (nI (mn)) go (nI (vi)) := ((congrFun eg_15 _).trans (va_up_ne _ _ (by omega))).trans h114_14
                    have h121_15 : g_15 121 = .inl (cy 1, 160, .inl (fun x9 => nI (TP x9))) := ((congrFun eg_15 _).trans (va_up_ne _ _ (by omega))).trans h121_14
                    have h125_15 : g_15 125 = .inl (cy 1, 201, .inl (fun x9 => nI (NSA x9))) := ((congrFun eg_15 _).trans (va_up_ne _ _ (by omega))).trans h125_14
                    have h126_15 : g_15 126 = .inl (cy 1, 201, .inl (fun x9 => nI (NNA x9))) := ((congrFun eg_15 _).trans (va_up_ne _ _ (by omega))).trans h126_14
                    have h127_15 : g_15 127 = .inl (cy 1, 5, .inl (fun x9 => nI (BGA x9))) := ((congrFun eg_15 _).trans (va_up_ne _ _ (by omega))).trans h127_14
                    have h128_15 : g_15 128 = .inl (cy 1, 5, .inl (fun x9 => nI (RDA x9))) := ((congrFun eg_15 _).trans (va_up_ne _ _ (by omega))).trans h128_14
                    have h129_15 : g_15 129 = .inl (cy 1, 5, .inl (fun x9 => nI (ITA x9))) := ((congrFun eg_15 _).trans (va_up_ne _ _ (by omega))).trans h129_14
                    have h122_15 : g_15 122 = .inl (cy 1, 8, .inl (fun x9 => nI ((va_up BY fi nmA) x9))) := ((congrFun eg_15 _).trans (va_up_ne _ _ (by omega))).trans h122_14
                    have h123_15 : g_15 123 = .inl (cy 1, 1600, .inl (fun x9 => nI ((va_up BSc ((200 * fi) + c9) (NSA c9)) x9))) := ((congrFun eg_15 _).trans (va_up_ne _ _ (by omega))).trans h123_14
                    have hfr_15 : ∀ j : Nat, j ≠ 114 → j ≠ 129 → j ≠ 125 → j ≠ 126 → j ≠ 127 → j ≠ 128 → j ≠ 122 → j ≠ 123 → j ≠ 124 → g_15 j = g j := fun j n0 n1 n2 n3 n4 n5 n6 n7 n8 => ((congrFun eg_15 _).trans (va_up_ne _ _ n8)).trans (hfr_14 j n0 n1 n2 n3 n4 n5 n6 n7 n8)
                    refine lv_iinc (v := nI (c9 + 1)) (lv' := [(2, .int (nI (c9 + 1))), (1, .int (nI (e9))), (0, .ref (ad 114))]) hx hb dX10_figure_297 hl (k := 0) rfl (by exact nI_add c9 1) (by decide) rfl (fun ls hl => ?_)
                    refine lv_goto (tgt := 247) hx hb dX10_figure_300 (by decide) ?_
                    exact ih247 (c9 + 1) (va_up BSc ((200 * fi) + c9) (NSA c9)) (va_up BNc ((200 * fi) + c9) (NNA c9)) (by omega) (FC_s hFC) (by omega) g_15 _ _ h114_15 h125_15 h126_15 h127_15 h128_15 h129_15 h122_15 h123_15 h124_15 hfr_15 hP hS _ (lv_sub hl [0, 1, 2] rfl)
              exact L247 ((nmA - 0) + 1) 0 BS BN (by omega) (FC_0 hFR) (Nat.lt_succ_self _) g_11 _ _ h114_11 h125_11 h126_11 h127_11 h128_11 h129_11 h122_11 h123_11 h124_11 (fun j n0 n1 n2 n3 n4 n5 n6 n7 n8 => hfr_11 j (by omega) (by omega) (by omega) (by omega) (by omega) (by omega) (by omega)) hP hS _ (lv_sub hl [0, 1, 2] rfl)
            · skip
              have c_221 := (not_congr (z_le (by omega))).mp c_221
              have hFn : ¬ tkF R9 = 0 := by rw [← hB.1.1]; omega
              have hPn := hB.2.1 (by omega)
              refine lv_bipush (v := (-10)) hx hb dX10_figure_224 (by decide) ?_
              refine lv_aload_n hx hb dX10_figure_226 rfl (lv_at hl 1 rfl) ?_
              refine mg S hK hP (by omega) h114_10 fd_X10_231 rfl dX10_figure_227 ?_
              refine lv_isub hx hb dX10_figure_230 ?_
              exact rMi S hr hlk hP hS ⟨_, _, _, _, _, _, _, _, _, _, _, _, _, _, _, _, (by rw [if_pos hfi8, if_neg hFn, ← hPn]), (by rw [if_neg (fun z => hFn z.2), if_neg (fun z => hFn z.2), if_neg (fun z => hFn z.2)]; exact hFR), (by rw [if_pos hfi8, if_pos hfi8, if_neg (fun z => hFn z.2), ← hB.1.1]; exact h114_10), h125_10, h126_10, h127_10, h128_10, h129_10, h122_10, h123_10, h124_10, (fun j n0 n1 n2 n3 n4 n5 n6 n7 n8 => hfr_10 j (by omega) (by omega) (by omega) (by omega) (by omega) (by omega))⟩ dX10_figure_231
          refine lv_if_ne (tgt := 204) hx hb dX10_figure_181 (by decide) (fun c_181 => ?_) (fun c_181 => ?_)
          · skip
            have c_181 := (not_congr (z_eq (by omega))).mp c_181
            exact J204 spA wrA waA ⟨⟨(TX_1 hTX c_181).1, hTX.1.2⟩, fun _ => (TX_1 hTX c_181).2, fun z => absurd z c_181⟩ g_7 _ _ h114_7 h125_7 h126_7 h127_7 h128_7 h129_7 hfr_7 hP hS _ (lv_sub hl [0, 1] rfl)
          · skip
            have c_181 := (z_eq (by omega)).mp c_181
            have hnr := hTX.2.2 c_181
            have hnmA : nmA ≤ 201 := by have h1 := hnr.1; have h4 := hnr.2.2.2.1; split at h4 <;> omega
            refine lv_aload_n hx hb dX10_figure_184 rfl (lv_at hl 1 rfl) ?_
            refine mg S hK hP (by omega) h114_7 fd_X10_256 rfl dX10_figure_185 ?_
            refine lv_sipush (v := nI (200)) hx hb dX10_figure_188 (by decide) ?_
            refine lv_icmp_le (tgt := 204) hx hb dX10_figure_191 (by decide) (fun c_191 => ?_) (fun c_191 => ?_)
            · skip
              have c_191 := (nI_leI (by omega) (by omega)).mp c_191
              exact J204 spA wrA waA ⟨⟨(TX_3 hTX c_181 (by omega)).1, hTX.1.2⟩, fun z => absurd c_181 z, fun _ => ⟨(TX_3 hTX c_181 (by omega)).2.1, (TX_3 hTX c_181 (by omega)).2.2.1, (TX_3 hTX c_181 (by omega)).2.2.2, hnr⟩⟩ g_7 _ _ h114_7 h125_7 h126_7 h127_7 h128_7 h129_7 hfr_7 hP hS _ (lv_sub hl [0, 1] rfl)
            · skip
              have c_191 := (not_congr (nI_leI (by omega) (by omega))).mp c_191
              refine lv_aload_n hx hb dX10_figure_194 rfl (lv_at hl 1 rfl) ?_
              refine lv_iconst (v := nI (0)) hx hb dX10_figure_195 (by decide) ?_
              refine mp S hK hP hI hS (by omega) h114_7 fd_X10_228 rfl rfl (Nat.le_of_ble_eq_true rfl) dX10_figure_196 (fun g_16 H locs eg_16 hP hS => ?_)
              have h114_16 : g_16 114 = mob ad (nI (n)) (nI (fa)) (nI (he)) (lN ov) (nI (un)) la bo (nI (tp)) ft (nI (wrA)) (nI (waA)) (nI (atA)) (nI (0)) (nI (tkA)) vlA (nI (fi)) (nI (nmA)) (nI (dpA)) wy st (nI (aP)) (nI (aF)) (nI (aH)) (lN aO) (nI (ps)) (nI (mn)) go (nI (vi)) := by rw [eg_16, va_up_self]; exact rfl
              have h121_16 : g_16 121 = .inl (cy 1, 160, .inl (fun x9 => nI (TP x9))) := ((congrFun eg_16 _).trans (va_up_ne _ _ (by omega))).trans h121_7
              have h125_16 : g_16 125 = .inl (cy 1, 201, .inl (fun x9 => nI (NSA x9))) := ((congrFun eg_16 _).trans (va_up_ne _ _ (by omega))).trans h125_7
              have h126_16 : g_16 126 = .inl (cy 1, 201, .inl (fun x9 => nI (NNA x9))) := ((congrFun eg_16 _).trans (va_up_ne _ _ (by omega))).trans h126_7
              have h127_16 : g_16 127 = .inl (cy 1, 5, .inl (fun x9 => nI (BGA x9))) := ((congrFun eg_16 _).trans (va_up_ne _ _ (by omega))).trans h127_7
              have h128_16 : g_16 128 = .inl (cy 1, 5, .inl (fun x9 => nI (RDA x9))) := ((congrFun eg_16 _).trans (va_up_ne _ _ (by omega))).trans h128_7
              have h129_16 : g_16 129 = .inl (cy 1, 5, .inl (fun x9 => nI (ITA x9))) := ((congrFun eg_16 _).trans (va_up_ne _ _ (by omega))).trans h129_7
              have h122_16 : g_16 122 = .inl (cy 1, 8, .inl (fun x9 => nI (BY x9))) := ((congrFun eg_16 _).trans (va_up_ne _ _ (by omega))).trans h122_7
              have h123_16 : g_16 123 = .inl (cy 1, 1600, .inl (fun x9 => nI (BS x9))) := ((congrFun eg_16 _).trans (va_up_ne _ _ (by omega))).trans h123_7
              have h124_16 : g_16 124 = .inl (cy 1, 1600, .inl (fun x9 => nI (BN x9))) := ((congrFun eg_16 _).trans (va_up_ne _ _ (by omega))).trans h124_7
              have hfr_16 : ∀ j : Nat, j ≠ 114 → j ≠ 129 → j ≠ 125 → j ≠ 126 → j ≠ 127 → j ≠ 128 → g_16 j = g j := fun j n0 n1 n2 n3 n4 n5 => ((congrFun eg_16 _).trans (va_up_ne _ _ n0)).trans (hfr_7 j n0 n1 n2 n3 n4 n5)
              refine lv_aload_n hx hb dX10_figure_199 rfl (lv_at hl 1 rfl) ?_
              refine lv_iconst (v := nI (5)) hx hb dX10_figure_200 (by decide) ?_
              refine kMv (As := [.int (nI (5))]) (rest := []) S hK hP hS (fun _ h => h) (c_X10_fails l D cy ad N g_16 hinj (by omega) n fa he ov un la bo tp ft wrA waA atA 0 tkA vlA fi nmA dpA wy st aP aF aH aO ps mn go vi h114_16 (by omega) 5) cv_X10_250 (by omega) h114_16 ⟨_, _, rfl⟩ ⟨rfl, rfl⟩ rfl hl.1 rfl (Nat.le_of_ble_eq_true rfl) ⟨Nat.zero_le _, Nat.zero_le _⟩ dX10_figure_201 (fun g_17 H locs q_17 hP hS => ?_)
              obtain ⟨h114_17, f_17⟩ := q_17
              have h121_17 : g_17 121 = .inl (cy 1, 160, .inl (fun x9 => nI (TP x9))) := (f_17 121 (by omega)).trans h121_16
              have h125_17 : g_17 125 = .inl (cy 1, 201, .inl (fun x9 => nI (NSA x9))) := (f_17 125 (by omega)).trans h125_16
              have h126_17 : g_17 126 = .inl (cy 1, 201, .inl (fun x9 => nI (NNA x9))) := (f_17 126 (by omega)).trans h126_16
              have h127_17 : g_17 127 = .inl (cy 1, 5, .inl (fun x9 => nI (BGA x9))) := (f_17 127 (by omega)).trans h127_16
              have h128_17 : g_17 128 = .inl (cy 1, 5, .inl (fun x9 => nI (RDA x9))) := (f_17 128 (by omega)).trans h128_16
              have h129_17 : g_17 129 = .inl (cy 1, 5, .inl (fun x9 => nI (ITA x9))) := (f_17 129 (by omega)).trans h129_16
              have h122_17 : g_17 122 = .inl (cy 1, 8, .inl (fun x9 => nI (BY x9))) := (f_17 122 (by omega)).trans h122_16
              have h123_17 : g_17 123 = .inl (cy 1, 1600, .inl (fun x9 => nI (BS x9))) := (f_17 123 (by omega)).trans h123_16
              have h124_17 : g_17 124 = .inl (cy 1, 1600, .inl (fun x9 => nI (BN x9))) := (f_17 124 (by omega)).trans h124_16
              have hfr_17 : ∀ j : Nat, j ≠ 114 → j ≠ 129 → j ≠ 125 → j ≠ 126 → j ≠ 127 → j ≠ 128 → g_17 j = g j := fun j n0 n1 n2 n3 n4 n5 => (f_17 j n0).trans (hfr_16 j n0 n1 n2 n3 n4 n5)
              exact J204 0 (if wrA = 0 then 5 else wrA) (if wrA = 0 then 0 else waA) ⟨⟨(if_pos c_181).trans (TX_2 hTX c_181 (by omega)).1, by rw [if_pos c_181]; decide⟩, fun _ => (if_pos c_181).trans (TX_2 hTX c_181 (by omega)).2, fun z => absurd ((if_pos c_181).symm.trans z) (by decide)⟩ g_17 _ _ h114_17 h125_17 h126_17 h127_17 h128_17 h129_17 hfr_17 hP hS _ (lv_sub hl [0, 1] rfl)
        refine lv_if_ne (tgt := 177) hx hb dX10_figure_49 (by decide) (fun c_49 => ?_) (fun c_49 => ?_)
        · skip
          have c_49 := (not_congr (z_eq (by omega))).mp c_49
          exact J177 (TJ_x hTJ htp (hR9 hfi8) (Or.inl c_49)) _ (lv_sub hl [0, 1] rfl)
        · skip
          have c_49 := (z_eq (by omega)).mp c_49
          refine lv_iload_n hx hb dX10_figure_52 rfl (lv_at hl 0 rfl) ?_
          refine lv_if_ne (tgt := 177) hx hb dX10_figure_53 (by decide) (fun c_53 => ?_) (fun c_53 => ?_)
          · skip
            have c_53 := (not_congr (z_eq (by omega))).mp c_53
            exact J177 (TJ_x hTJ htp (hR9 hfi8) (Or.inr c_53)) _ (lv_sub hl [0, 1] rfl)
          · skip
            have c_53 := (z_eq (by omega)).mp c_53
            have hJ := Or.resolve_right hTJ (fun z => by obtain ⟨z1, z2, z3, z4, y1, y2, y3, y4, y5, y6⟩ := z; rcases y5 with y | y; exact y (by omega); exact y c_53)
            obtain ⟨q9, p8, pl9, hS9, hE9, hQ9, hM8, hL9⟩ := hJ
            have hLw := LXR_w hL9
            have hat9 : atA = lxN T tp q9 := hLw.2.2.2.2.2
            have hsp9 := hLw.2.2.2.1
            have hnb := lxN_bd (T := T) hQ9.2
            have hL0 := hL9
            rw [c_49] at hL0
            have hLi := LXR_i hL0
            have hdp8 := hM8.2.1
            have hit0 := hM8.2.2.2.2.2 0 (Nat.zero_le _)
            have hlv := lxV_lt (T := T) (len := tp) (q := q9) hT
            have htk5 := hLw.2.1
            refine lv_aload_n hx hb dX10_figure_56 rfl (lv_at hl 1 rfl) ?_
            refine mg S hK hP (by omega) h114_7 fd_X10_240 rfl dX10_figure_57 ?_
            have J84 : ∀ (e8 : Nat), ((e8 = 1 ∧ tkA = 0 ∧ dpA = 0 ∧ 1 ≤ ITA 0) ∨ (e8 = 0 ∧ ¬ (tkA = 0 ∧ dpA = 0 ∧ 1 ≤ ITA 0))) → ∀ (ls : Array Slot), lv_has ls 3 [(1, .int (nI (e9))), (0, .ref (ad 114))] → W p l e (rmF 3 70) s m [.ref (ad 114)].toArray below meth c H locs 0 0 (MQ below (QI (fun r g1 => ∃ (at2 : Nat), ∃ (sp2 : Nat), ∃ (tk2 : Nat), ∃ (vl2 : Int32), ∃ (wr2 : Nat), ∃ (wa2 : Nat), ∃ (nm2 : Nat), ∃ (dp2 : Nat), ∃ (NS2 : Nat → Nat), ∃ (NN2 : Nat → Nat), ∃ (BG2 : Nat → Nat), ∃ (RD2 : Nat → Nat), ∃ (IT2 : Nat → Nat), ∃ (BY2 : Nat → Nat), ∃ (BS2 : Nat → Nat), ∃ (BN2 : Nat → Nat), (r = if fi < 8 then (if tkF R9 = 0 then nI fi else -10 - nI (tkP R9)) else -3) ∧ (FR (if fi < 8 ∧ tkF R9 = 0 then fi + 1 else fi) BY2 BS2 BN2 (if fi < 8 ∧ tkF R9 = 0 then va_up Fl fi (pLen R9.2.1) else Fl) (if fi < 8 ∧ tkF R9 = 0 then va_up FB fi (cpB (pB R9.2.1) (FB fi)) else FB)) ∧ g1 114 = mob ad (nI (n)) (nI (fa)) (nI (he)) (lN ov) (nI (un)) la bo (nI (if fi < 8 then 0 else tp)) (if fi < 8 then nI (tkF R9) else ft) (nI (wr2)) (nI (wa2)) (nI (at2)) (nI (sp2)) (nI (tk2)) vl2 (nI (if fi < 8 ∧ tkF R9 = 0 then fi + 1 else fi)) (nI (nm2)) (nI (dp2)) wy st (nI (aP)) (nI (aF)) (nI (aH)) (lN aO) (nI (ps)) (nI (mn)) go (nI (vi)) ∧ g1 125 = .inl (cy 1, 201, .inl (fun x9 => nI (NS2 x9))) ∧ g1 126 = .inl (cy 1, 201, .inl (fun x9 => nI (NN2 x9))) ∧ g1 127 = .inl (cy 1, 5, .inl (fun x9 => nI (BG2 x9))) ∧ g1 128 = .inl (cy 1, 5, .inl (fun x9 => nI (RD2 x9))) ∧ g1 129 = .inl (cy 1, 5, .inl (fun x9 => nI (IT2 x9))) ∧ g1 122 = .inl (cy 1, 8, .inl (fun x9 => nI (BY2 x9))) ∧ g1 123 = .inl (cy 1, 1600, .inl (fun x9 => nI (BS2 x9))) ∧ g1 124 = .inl (cy 1, 1600, .inl (fun x9 => nI (BN2 x9))) ∧ (∀ j, j ≠ 114 → j ≠ 125 → j ≠ 126 → j ≠ 127 → j ≠ 128 → j ≠ 129 → j ≠ 122 → j ≠ 123 → j ≠ 124 → g1 j = g j)) D ad N) [.ref (ad 114)].toArray s 0 0 (AA ad N)) (F0 m 84 ls [.int (nI (e8))]) := by
              intro e8 he8 ls hl
              refine lv_istore_n (lv' := [(1, .int (nI (e8))), (0, .ref (ad 114))]) hx hb dX10_figure_84 rfl hl (by decide) rfl (fun ls hl => ?_)
              refine lv_aload_n hx hb dX10_figure_85 rfl (lv_at hl 1 rfl) ?_
              refine mg S hK hP (by omega) h114_7 fd_X10_240 rfl dX10_figure_86 ?_
              refine lv_iconst (v := nI (1)) hx hb dX10_figure_89 (by decide) ?_
              refine lv_icmp_ne (tgt := 100) hx hb dX10_figure_90 (by decide) (fun c_90 => ?_) (fun c_90 => ?_)
              · skip
                have c_90 := (not_congr (nI_eq (by omega) (by omega))).mp c_90
                refine lv_aload_n hx hb dX10_figure_100 rfl (lv_at hl 1 rfl) ?_
                refine mg S hK hP (by omega) h114_7 fd_X10_240 rfl dX10_figure_101 ?_
                refine lv_iconst (v := nI (5)) hx hb dX10_figure_104 (by decide) ?_
                refine lv_icmp_ne (tgt := 135) hx hb dX10_figure_105 (by decide) (fun c_105 => ?_) (fun c_105 => ?_)
                · skip
                  have c_105 := (not_congr (nI_eq (by omega) (by omega))).mp c_105
                  refine lv_aload_n hx hb dX10_figure_135 rfl (lv_at hl 1 rfl) ?_
                  refine mg S hK hP (by omega) h114_7 fd_X10_240 rfl dX10_figure_136 ?_
                  refine lv_iconst (v := nI (2)) hx hb dX10_figure_139 (by decide) ?_
                  refine lv_icmp_ne (tgt := 150) hx hb dX10_figure_140 (by decide) (fun c_140 => ?_) (fun c_140 => ?_)
                  · skip
                    have c_140 := (not_congr (nI_eq (by omega) (by omega))).mp c_140
                    refine lv_aload_n hx hb dX10_figure_150 rfl (lv_at hl 1 rfl) ?_
                    refine mg S hK hP (by omega) h114_7 fd_X10_240 rfl dX10_figure_151 ?_
                    refine lv_iconst (v := nI (4)) hx hb dX10_figure_154 (by decide) ?_
                    refine lv_icmp_ne (tgt := 165) hx hb dX10_figure_155 (by decide) (fun c_155 => ?_) (fun c_155 => ?_)
                    · skip
                      have c_155 := (not_congr (nI_eq (by omega) (by omega))).mp c_155
                      refine lv_iload_n hx hb dX10_figure_165 rfl (lv_at hl 0 rfl) ?_
                      refine lv_if_ne (tgt := 45) hx hb dX10_figure_166 (by decide) (fun c_166 => ?_) (fun c_166 => ?_)
                      · skip
                        have c_166 := (not_congr (z_eq (by omega))).mp c_166
                        have he1 : e8 = 1 ∧ tkA = 0 ∧ dpA = 0 ∧ 1 ≤ ITA 0 := he8.resolve_right (fun z => c_166 z.1)
                        have hk5 := hLi.2.1 he1.2.1
                        have hpE : pEm p8 = 0 ∧ pOp p8 = 0 := ⟨hM8.2.2.2.2.1.mpr (by rw [← hdp8.1, he1.2.2.1]; exact he1.2.2.2), by omega⟩
                        have hR1 : tkAny Fl FB fi (lxK T tp q9) (lxV T tp q9) p8 = (0, p8) := by rw [hk5, tkAny_0 hE9.2 (by decide), end_e, if_neg (fun z => by rcases z with z | z; exact z hpE.1; exact z hpE.2)]
                        exact ih45 (i9 + 1) e8 nmA dpA atA spA tkA vlA wrA waA NSA NNA BGA RDA ITA (by rw [he1.1]; exact TJ_1e hS9 (by omega) hk5 hR1 c_49 hM8.1.1) (by omega) (by omega) g_7 _ _ h114_7 h125_7 h126_7 h127_7 h128_7 h129_7 hfr_7 hP hS _ (lv_sub hl [0, 1] rfl)
                      · skip
                        have c_166 := (z_eq (by omega)).mp c_166
                        have he1 : ¬ (tkA = 0 ∧ dpA = 0 ∧ 1 ≤ ITA 0) := by rcases he8 with z | z; omega; exact z.2
                        have hR1 : tkAny Fl FB fi (lxK T tp q9) (lxV T tp q9) p8 = (2, p8) := by rcases (show tkA = 0 ∨ tkA = 3 by omega) with z | z; (rw [hLi.2.1 z, tkAny_0 hE9.2 (by decide), end_e, if_pos (by by_cases u : pOp p8 = 0; (left; intro v; exact he1 ⟨z, by omega, by have q := hM8.2.2.2.2.1.mp v; rw [u] at q; exact q⟩); (right; exact u))]); (rw [hLi.2.2.2.2.1 z, tkAny_0 hE9.2 (by decide), opx_e])
                        refine lv_aload_n hx hb dX10_figure_169 rfl (lv_at hl 1 rfl) ?_
                        refine lv_iconst (v := nI (2)) hx hb dX10_figure_170 (by decide) ?_
                        refine kMv (As := [.int (nI (2))]) (rest := []) S hK hP hS (fun _ h => h) (c_X10_fails l D cy ad N g_7 hinj (by omega) n fa he ov un la bo tp ft wrA waA atA spA tkA vlA fi nmA dpA wy st aP aF aH aO ps mn go vi h114_7 (by omega) 2) cv_X10_250 (by omega) h114_7 ⟨_, _, rfl⟩ ⟨rfl, rfl⟩ rfl hl.1 rfl (Nat.le_of_ble_eq_true rfl) ⟨Nat.zero_le _, Nat.zero_le _⟩ dX10_figure_171 (fun g_18 H locs q_18 hP hS => ?_)
                        obtain ⟨h114_18, f_18⟩ := q_18
                        have h121_18 : g_18 121 = .inl (cy 1, 160, .inl (fun x9 => nI (TP x9))) := (f_18 121 (by omega)).trans h121_7
                        have h125_18 : g_18 125 = .inl (cy 1, 201, .inl (fun x9 => nI (NSA x9))) := (f_18 125 (by omega)).trans h125_7
                        have h126_18 : g_18 126 = .inl (cy 1, 201, .inl (fun x9 => nI (NNA x9))) := (f_18 126 (by omega)).trans h126_7
                        have h127_18 : g_18 127 = .inl (cy 1, 5, .inl (fun x9 => nI (BGA x9))) := (f_18 127 (by omega)).trans h127_7
                        have h128_18 : g_18 128 = .inl (cy 1, 5, .inl (fun x9 => nI (RDA x9))) := (f_18 128 (by omega)).trans h128_7
                        have h129_18 : g_18 129 = .inl (cy 1, 5, .inl (fun x9 => nI (ITA x9))) := (f_18 129 (by omega)).trans h129_7
                        have h122_18 : g_18 122 = .inl (cy 1, 8, .inl (fun x9 => nI (BY x9))) := (f_18 122 (by omega)).trans h122_7
                        have h123_18 : g_18 123 = .inl (cy 1, 1600, .inl (fun x9 => nI (BS x9))) := (f_18 123 (by omega)).trans h123_7
                        have h124_18 : g_18 124 = .inl (cy 1, 1600, .inl (fun x9 => nI (BN x9))) := (f_18 124 (by omega)).trans h124_7
                        have hfr_18 : ∀ j : Nat, j ≠ 114 → j ≠ 129 → j ≠ 125 → j ≠ 126 → j ≠ 127 → j ≠ 128 → g_18 j = g j := fun j n0 n1 n2 n3 n4 n5 => (f_18 j n0).trans (hfr_7 j n0 n1 n2 n3 n4 n5)
                        refine lv_goto (tgt := 45) hx hb dX10_figure_174 (by decide) ?_
                        exact ih45 (i9 + 1) e8 nmA dpA atA spA tkA vlA (if wrA = 0 then 2 else wrA) (if wrA = 0 then spA else waA) NSA NNA BGA RDA ITA (TJ_1d hS9 (by omega) hR1 (show ¬ (2 : Nat) = 0 by decide) (if_pos c_49) ((if_pos c_49).trans hsp9)) (by omega) (by omega) g_18 _ _ h114_18 h125_18 h126_18 h127_18 h128_18 h129_18 hfr_18 hP hS _ (lv_sub hl [0, 1] rfl)
                    · skip
                      have c_155 := (nI_eq (by omega) (by omega)).mp c_155
                      have he0 : e8 = 0 := by omega
                      have hk3 := hLi.2.2.2.2.2.1 c_155
                      have hR1 : tkAny Fl FB fi (lxK T tp q9) (lxV T tp q9) p8 = tkItem 3 0 p8 := by rw [hk3, tkAny_0 hE9.2 (by decide)]; rfl
                      refine lv_aload_n hx hb dX10_figure_158 rfl (lv_at hl 1 rfl) ?_
                      refine kMv (As := []) (rest := []) S hK hP hS (fun _ h => h) (c_X10_shuts l D cy ad N g_7 hinj p8 i9 (by omega) n fa he ov un la bo tp ft waA atA spA tkA vlA fi nmA dpA wy st aP aF aH aO ps mn go vi (by have q := h114_7; rw [c_49] at q; exact q) TP h121_7 T htp hTT hT NSA h125_7 NNA h126_7 BGA h127_7 RDA h128_7 ITA h129_7 (by rw [hat9]; exact hnb.2.1) hM8 (by omega)) cv_X10_280 (by omega) h114_7 ⟨_, _, rfl⟩ ⟨rfl, rfl⟩ rfl hl.1 rfl (Nat.le_of_ble_eq_true rfl) ⟨Nat.zero_le _, Nat.zero_le _⟩ dX10_figure_159 (fun g_19 H locs q_19 hP hS => ?_)
                      obtain ⟨nm2_19, NS2_19, NN2_19, dp2_19, at2_19, sp2_19, tk2_19, vl2_19, wr2_19, wa2_19, hX2_19, h114_19, h125_19, h126_19, f_19⟩ := q_19
                      have h121_19 : g_19 121 = .inl (cy 1, 160, .inl (fun x9 => nI (TP x9))) := (f_19 121 (by omega) (by omega) (by omega)).trans h121_7
                      have h127_19 : g_19 127 = .inl (cy 1, 5, .inl (fun x9 => nI (BGA x9))) := (f_19 127 (by omega) (by omega) (by omega)).trans h127_7
                      have h128_19 : g_19 128 = .inl (cy 1, 5, .inl (fun x9 => nI (RDA x9))) := (f_19 128 (by omega) (by omega) (by omega)).trans h128_7
                      have h129_19 : g_19 129 = .inl (cy 1, 5, .inl (fun x9 => nI (ITA x9))) := (f_19 129 (by omega) (by omega) (by omega)).trans h129_7
                      have h122_19 : g_19 122 = .inl (cy 1, 8, .inl (fun x9 => nI (BY x9))) := (f_19 122 (by omega) (by omega) (by omega)).trans h122_7
                      have h123_19 : g_19 123 = .inl (cy 1, 1600, .inl (fun x9 => nI (BS x9))) := (f_19 123 (by omega) (by omega) (by omega)).trans h123_7
                      have h124_19 : g_19 124 = .inl (cy 1, 1600, .inl (fun x9 => nI (BN x9))) := (f_19 124 (by omega) (by omega) (by omega)).trans h124_7
                      have hfr_19 : ∀ j : Nat, j ≠ 114 → j ≠ 129 → j ≠ 125 → j ≠ 126 → j ≠ 127 → j ≠ 128 → g_19 j = g j := fun j n0 n1 n2 n3 n4 n5 => (f_19 j n0 n2 n3).trans (hfr_7 j n0 n1 n2 n3 n4 n5)
                      refine lv_goto (tgt := 45) hx hb dX10_figure_162 (by decide) ?_
                      exact ih45 (i9 + 1) e8 nm2_19 dp2_19 at2_19 sp2_19 tk2_19 vl2_19 wr2_19 wa2_19 NS2_19 NN2_19 BGA RDA ITA (by rw [he0]; rcases hX2_19 with ⟨z1, z2, z3⟩ | ⟨z1, z2, z3⟩; exact TJ_1d hS9 (by omega) hR1 z1 z2 (z3.trans hsp9); exact TJ_1l (p1 := (tkItem 3 0 p8).2) hS9 hQ9 (by rw [hk3]; decide) (by rw [hR1]; exact Prod.ext z1 rfl) (shu_z hE9.2 hM8.1.2) z2 (by rw [← hat9]; exact z3)) (by omega) (by omega) g_19 _ _ h114_19 h125_19 h126_19 h127_19 h128_19 h129_19 hfr_19 hP hS _ (lv_sub hl [0, 1] rfl)
                  · skip
                    have c_140 := (nI_eq (by omega) (by omega)).mp c_140
                    have he0 : e8 = 0 := by omega
                    have hvl9 : vlA = nI (lxV T tp q9) := (hL9.2.2.2.2.1 (hLi.2.2.2.1 c_140)).2
                    refine lv_aload_n hx hb dX10_figure_143 rfl (lv_at hl 1 rfl) ?_
                    refine kMv (As := []) (rest := []) S hK hP hS (fun _ h => h) (c_X10_opens l D cy ad N g_7 hinj p8 i9 (lxV T tp q9) (by omega) n fa he ov un la bo tp ft waA atA spA tkA fi nmA dpA wy st aP aF aH aO ps mn go vi (by have q := h114_7; rw [hvl9, c_49] at q; exact q) TP h121_7 T htp hTT hT NSA h125_7 NNA h126_7 BGA h127_7 RDA h128_7 ITA h129_7 BY h122_7 BS h123_7 BN h124_7 Fl FB hfi hFR hlv.1 (by rw [hat9]; exact hnb.2.1) (by omega) hFB hM8) cv_X10_277 (by omega) h114_7 ⟨_, _, rfl⟩ ⟨rfl, rfl⟩ rfl hl.1 rfl (Nat.le_of_ble_eq_true rfl) ⟨Nat.zero_le _, Nat.zero_le _⟩ dX10_figure_144 (fun g_20 H locs q_20 hP hS => ?_)
                    obtain ⟨dp2_20, BG2_20, RD2_20, IT2_20, at2_20, sp2_20, tk2_20, vl2_20, wr2_20, wa2_20, hX2_20, h114_20, h127_20, h128_20, h129_20, f_20⟩ := q_20
                    have h121_20 : g_20 121 = .inl (cy 1, 160, .inl (fun x9 => nI (TP x9))) := (f_20 121 (by omega) (by omega) (by omega) (by omega)).trans h121_7
                    have h125_20 : g_20 125 = .inl (cy 1, 201, .inl (fun x9 => nI (NSA x9))) := (f_20 125 (by omega) (by omega) (by omega) (by omega)).trans h125_7
                    have h126_20 : g_20 126 = .inl (cy 1, 201, .inl (fun x9 => nI (NNA x9))) := (f_20 126 (by omega) (by omega) (by omega) (by omega)).trans h126_7
                    have h122_20 : g_20 122 = .inl (cy 1, 8, .inl (fun x9 => nI (BY x9))) := (f_20 122 (by omega) (by omega) (by omega) (by omega)).trans h122_7
                    have h123_20 : g_20 123 = .inl (cy 1, 1600, .inl (fun x9 => nI (BS x9))) := (f_20 123 (by omega) (by omega) (by omega) (by omega)).trans h123_7
                    have h124_20 : g_20 124 = .inl (cy 1, 1600, .inl (fun x9 => nI (BN x9))) := (f_20 124 (by omega) (by omega) (by omega) (by omega)).trans h124_7
                    have hfr_20 : ∀ j : Nat, j ≠ 114 → j ≠ 129 → j ≠ 125 → j ≠ 126 → j ≠ 127 → j ≠ 128 → g_20 j = g j := fun j n0 n1 n2 n3 n4 n5 => (f_20 j n0 n4 n5 n1).trans (hfr_7 j n0 n1 n2 n3 n4 n5)
                    have hk1 := hLi.2.2.2.1 c_140
                    have hR1 : tkAny Fl FB fi (lxK T tp q9) (lxV T tp q9) p8 = (if lxV T tp q9 < 1 ∨ 20 < lxV T tp q9 then 3 else 0, nuP (lxV T tp q9) p8) := by rw [hk1, tkAny_0 hE9.2 (by decide), nuP_e]
                    obtain ⟨i8, hi8, hTJ8⟩ : ∃ i8, i9 < i8 ∧ TJ Fl FB fi T tp y0 i8 0 nmA dp2_20 NSA NNA BG2_20 RD2_20 IT2_20 at2_20 sp2_20 tk2_20 vl2_20 wr2_20 wa2_20 := by
                      rcases hX2_20 with ⟨z1, z2, z3⟩ | ⟨z1, z2⟩
                      · exact ⟨i9 + 1, by omega, TJ_1d hS9 (by omega) hR1 (by rw [if_pos z1]; exact (show ¬ (3 : Nat) = 0 by decide)) (by rw [if_pos z1]; exact z2) (z3.trans hsp9)⟩
                      · exact ⟨i9 + 2, by omega, TJ_2 hS9 hQ9 htp (by rw [hk1]; decide) (by rw [hR1, if_neg z1]) rfl (fun z => opn_z z) (by rw [← hat9]; exact z2)⟩
                    refine lv_goto (tgt := 45) hx hb dX10_figure_147 (by decide) ?_
                    exact ih45 i8 e8 nmA dp2_20 at2_20 sp2_20 tk2_20 vl2_20 wr2_20 wa2_20 NSA NNA BG2_20 RD2_20 IT2_20 (by rw [he0]; exact hTJ8) (by omega) (by omega) g_20 _ _ h114_20 h125_20 h126_20 h127_20 h128_20 h129_20 hfr_20 hP hS _ (lv_sub hl [0, 1] rfl)
                · skip
                  have c_105 := (nI_eq (by omega) (by omega)).mp c_105
                  have hk4 := hLi.2.2.2.2.2.2 c_105
                  have he0 : e8 = 0 := by omega
                  have hR1 : tkAny Fl FB fi (lxK T tp q9) (lxV T tp q9) p8 = (0, wrP 48 p8) := by rw [hk4, tkAny_0 hE9.2 (by decide), rst_e]
                  refine lv_aload_n hx hb dX10_figure_108 rfl (lv_at hl 1 rfl) ?_
                  refine lv_bipush (v := nI (6)) hx hb dX10_figure_109 (by decide) ?_
                  refine lv_iconst (v := nI (0)) hx hb dX10_figure_111 (by decide) ?_
                  refine kMv (As := [.int (nI (6)), .int (nI (0))]) (rest := []) S hK hP hS (fun _ h => h) (c_X10_beat l D cy ad N g_7 hinj (by omega) n fa he ov un la bo tp ft wrA waA atA spA tkA vlA fi nmA dpA wy st aP aF aH aO ps mn go vi h114_7 NSA h125_7 NNA h126_7 (pLen p8) (pB p8) (pOv p8) 6 0 hM8.1.1 (fun _ => by decide)) cv_X10_265 (by omega) h114_7 ⟨_, _, rfl⟩ ⟨rfl, rfl⟩ rfl hl.1 rfl (Nat.le_of_ble_eq_true rfl) ⟨Nat.zero_le _, Nat.zero_le _⟩ dX10_figure_112 (fun g_21 H locs q_21 hP hS => ?_)
                  obtain ⟨nm2_21, NS2_21, NN2_21, hNR2_21, h114_21, h125_21, h126_21, f_21⟩ := q_21
                  have h121_21 : g_21 121 = .inl (cy 1, 160, .inl (fun x9 => nI (TP x9))) := (f_21 121 (by omega) (by omega) (by omega)).trans h121_7
                  have h127_21 : g_21 127 = .inl (cy 1, 5, .inl (fun x9 => nI (BGA x9))) := (f_21 127 (by omega) (by omega) (by omega)).trans h127_7
                  have h128_21 : g_21 128 = .inl (cy 1, 5, .inl (fun x9 => nI (RDA x9))) := (f_21 128 (by omega) (by omega) (by omega)).trans h128_7
                  have h129_21 : g_21 129 = .inl (cy 1, 5, .inl (fun x9 => nI (ITA x9))) := (f_21 129 (by omega) (by omega) (by omega)).trans h129_7
                  have h122_21 : g_21 122 = .inl (cy 1, 8, .inl (fun x9 => nI (BY x9))) := (f_21 122 (by omega) (by omega) (by omega)).trans h122_7
                  have h123_21 : g_21 123 = .inl (cy 1, 1600, .inl (fun x9 => nI (BS x9))) := (f_21 123 (by omega) (by omega) (by omega)).trans h123_7
                  have h124_21 : g_21 124 = .inl (cy 1, 1600, .inl (fun x9 => nI (BN x9))) := (f_21 124 (by omega) (by omega) (by omega)).trans h124_7
                  have hfr_21 : ∀ j : Nat, j ≠ 114 → j ≠ 129 → j ≠ 125 → j ≠ 126 → j ≠ 127 → j ≠ 128 → g_21 j = g j := fun j n0 n1 n2 n3 n4 n5 => (f_21 j n0 n2 n3).trans (hfr_7 j n0 n1 n2 n3 n4 n5)
                  refine lv_aload_n hx hb dX10_figure_115 rfl (lv_at hl 1 rfl) ?_
                  refine mg S hK hP (by omega) h114_21 fd_X10_63 rfl dX10_figure_116 ?_
                  refine lv_aload_n hx hb dX10_figure_119 rfl (lv_at hl 1 rfl) ?_
                  refine mg S hK hP (by omega) h114_21 fd_X10_269 rfl dX10_figure_120 ?_
                  refine lv_dup2_11 hx hb dX10_figure_123 rfl rfl ?_
                  refine mial S hK hP (by omega) h129_21 (vp_in_nI (by omega) (by omega)) dX10_figure_124 ?_
                  refine tpi (congrArg ((fun x9 => nI (ITA x9))) (nI_clamp (by omega))) ?_
                  refine lv_iconst (v := nI (1)) hx hb dX10_figure_125 (by decide) ?_
                  refine lv_iadd hx hb dX10_figure_126 ?_
                  refine tpi (nI_add (ITA dpA) 1) ?_
                  refine mias S hK hP hI hS (by omega) h129_21 (vp_in_nI (by omega) (by omega)) dX10_figure_127 (fun g_22 H locs eg_22 hP hS => ?_)
                  have h129_22 : g_22 129 = .inl (cy 1, 5, .inl (fun x9 => nI ((va_up ITA dpA (ITA dpA + 1)) x9))) := by rw [eg_22, va_up_self]; exact (arrN_up (by omega))
                  have h114_22 : g_22 114 = mob ad (nI (n)) (nI (fa)) (nI (he)) (lN ov) (nI (un)) la bo (nI (tp)) ft (nI (wrA)) (nI (waA)) (nI (atA)) (nI (spA)) (nI (tkA)) vlA (nI (fi)) (nI (nm2_21)) (nI (dpA)) wy st (nI (aP)) (nI (aF)) (nI (aH)) (lN aO) (nI (ps)) (nI (mn)) go (nI (vi)) := ((congrFun eg_22 _).trans (va_up_ne _ _ (by omega))).trans h114_21
                  have h121_22 : g_22 121 = .inl (cy 1, 160, .inl (fun x9 => nI (TP x9))) := ((congrFun eg_22 _).trans (va_up_ne _ _ (by omega))).trans h121_21
                  have h125_22 : g_22 125 = .inl (cy 1, 201, .inl (fun x9 => nI (NS2_21 x9))) := ((congrFun eg_22 _).trans (va_up_ne _ _ (by omega))).trans h125_21
                  have h126_22 : g_22 126 = .inl (cy 1, 201, .inl (fun x9 => nI (NN2_21 x9))) := ((congrFun eg_22 _).trans (va_up_ne _ _ (by omega))).trans h126_21
                  have h127_22 : g_22 127 = .inl (cy 1, 5, .inl (fun x9 => nI (BGA x9))) := ((congrFun eg_22 _).trans (va_up_ne _ _ (by omega))).trans h127_21
                  have h128_22 : g_22 128 = .inl (cy 1, 5, .inl (fun x9 => nI (RDA x9))) := ((congrFun eg_22 _).trans (va_up_ne _ _ (by omega))).trans h128_21
                  have h122_22 : g_22 122 = .inl (cy 1, 8, .inl (fun x9 => nI (BY x9))) := ((congrFun eg_22 _).trans (va_up_ne _ _ (by omega))).trans h122_21
                  have h123_22 : g_22 123 = .inl (cy 1, 1600, .inl (fun x9 => nI (BS x9))) := ((congrFun eg_22 _).trans (va_up_ne _ _ (by omega))).trans h123_21
                  have h124_22 : g_22 124 = .inl (cy 1, 1600, .inl (fun x9 => nI (BN x9))) := ((congrFun eg_22 _).trans (va_up_ne _ _ (by omega))).trans h124_21
                  have hfr_22 : ∀ j : Nat, j ≠ 114 → j ≠ 129 → j ≠ 125 → j ≠ 126 → j ≠ 127 → j ≠ 128 → g_22 j = g j := fun j n0 n1 n2 n3 n4 n5 => ((congrFun eg_22 _).trans (va_up_ne _ _ n1)).trans (hfr_21 j n0 n1 n2 n3 n4 n5)
                  refine lv_aload_n hx hb dX10_figure_128 rfl (lv_at hl 1 rfl) ?_
                  refine kMv (As := []) (rest := []) S hK hP hS (fun _ h => h) (c_X10_next l D cy ad N g_22 hinj (by omega) n fa he ov un la bo tp ft wrA waA atA spA tkA vlA fi nm2_21 dpA wy st aP aF aH aO ps mn go vi h114_22 TP h121_22 T htp hTT hT (by omega) (by rw [hat9]; exact hnb.2.1)) cv_X10_259 (by omega) h114_22 ⟨_, _, rfl⟩ ⟨rfl, rfl⟩ rfl hl.1 rfl (Nat.le_of_ble_eq_true rfl) ⟨Nat.zero_le _, Nat.zero_le _⟩ dX10_figure_129 (fun g_23 H locs q_23 hP hS => ?_)
                  obtain ⟨at2_23, sp2_23, tk2_23, vl2_23, wr2_23, wa2_23, hNX_23, h114_23, f_23⟩ := q_23
                  have h121_23 : g_23 121 = .inl (cy 1, 160, .inl (fun x9 => nI (TP x9))) := (f_23 121 (by omega)).trans h121_22
                  have h125_23 : g_23 125 = .inl (cy 1, 201, .inl (fun x9 => nI (NS2_21 x9))) := (f_23 125 (by omega)).trans h125_22
                  have h126_23 : g_23 126 = .inl (cy 1, 201, .inl (fun x9 => nI (NN2_21 x9))) := (f_23 126 (by omega)).trans h126_22
                  have h127_23 : g_23 127 = .inl (cy 1, 5, .inl (fun x9 => nI (BGA x9))) := (f_23 127 (by omega)).trans h127_22
                  have h128_23 : g_23 128 = .inl (cy 1, 5, .inl (fun x9 => nI (RDA x9))) := (f_23 128 (by omega)).trans h128_22
                  have h129_23 : g_23 129 = .inl (cy 1, 5, .inl (fun x9 => nI ((va_up ITA dpA (ITA dpA + 1)) x9))) := (f_23 129 (by omega)).trans h129_22
                  have h122_23 : g_23 122 = .inl (cy 1, 8, .inl (fun x9 => nI (BY x9))) := (f_23 122 (by omega)).trans h122_22
                  have h123_23 : g_23 123 = .inl (cy 1, 1600, .inl (fun x9 => nI (BS x9))) := (f_23 123 (by omega)).trans h123_22
                  have h124_23 : g_23 124 = .inl (cy 1, 1600, .inl (fun x9 => nI (BN x9))) := (f_23 124 (by omega)).trans h124_22
                  have hfr_23 : ∀ j : Nat, j ≠ 114 → j ≠ 129 → j ≠ 125 → j ≠ 126 → j ≠ 127 → j ≠ 128 → g_23 j = g j := fun j n0 n1 n2 n3 n4 n5 => (f_23 j n0).trans (hfr_22 j n0 n1 n2 n3 n4 n5)
                  refine lv_goto (tgt := 45) hx hb dX10_figure_132 (by decide) ?_
                  exact ih45 (i9 + 1) e8 nm2_21 dpA at2_23 sp2_23 tk2_23 vl2_23 wr2_23 wa2_23 NS2_21 NN2_21 BGA RDA (va_up ITA dpA (ITA dpA + 1)) (by rw [he0]; exact TJ_1l hS9 hQ9 (by rw [hk4]; decide) hR1 hE9.2 (MPR_it (j := i9 + 1) hM8 (NR_w (p := p8) (v := 48) ⟨hM8.1.1.2.1, hM8.1.1.2.2.1⟩ hNR2_21) (wrP_ok hM8.1.2 (by decide)) rfl rfl rfl rfl (fun z => wrP_ov hM8.1.1.2.2.1 z) (by omega)) (by rw [← hat9]; exact (hNX_23.resolve_left (fun z => z.1 c_49)).2)) (by omega) (by omega) g_23 _ _ h114_23 h125_23 h126_23 h127_23 h128_23 h129_23 hfr_23 hP hS _ (lv_sub hl [0, 1] rfl)
              · skip
                have c_90 := (nI_eq (by omega) (by omega)).mp c_90
                have hk0 := hLi.2.2.1 c_90
                have he0 : e8 = 0 := by omega
                have hvl9 : vlA = nI (lxV T tp q9) := (hL9.2.2.2.1 hk0).2
                have hR1 : tkAny Fl FB fi (lxK T tp q9) (lxV T tp q9) p8 = (0, ltP (lxV T tp q9) p8) := by rw [hk0, tkAny_0 hE9.2 (by decide), ltP_e]
                refine lv_aload_n hx hb dX10_figure_93 rfl (lv_at hl 1 rfl) ?_
                refine kMv (As := []) (rest := []) S hK hP hS (fun _ h => h) (c_X10_letter l D cy ad N g_7 hinj p8 i9 (lxV T tp q9) (by omega) n fa he ov un la bo tp ft waA atA spA tkA fi nmA dpA wy st aP aF aH aO ps mn go vi (by have q := h114_7; rw [hvl9, c_49] at q; exact q) TP h121_7 T htp hTT hT NSA h125_7 NNA h126_7 BGA h127_7 RDA h128_7 ITA h129_7 BY h122_7 BS h123_7 BN h124_7 Fl FB hfi hFR (hlv.2 hk0) (by rw [hat9]; exact hnb.2.1) hFB hM8) cv_X10_274 (by omega) h114_7 ⟨_, _, rfl⟩ ⟨rfl, rfl⟩ rfl hl.1 rfl (Nat.le_of_ble_eq_true rfl) ⟨Nat.zero_le _, Nat.zero_le _⟩ dX10_figure_94 (fun g_24 H locs q_24 hP hS => ?_)
                obtain ⟨nm2_24, NS2_24, NN2_24, IT2_24, at2_24, sp2_24, tk2_24, vl2_24, wr2_24, wa2_24, hX2_24, h114_24, h125_24, h126_24, h129_24, f_24⟩ := q_24
                have h121_24 : g_24 121 = .inl (cy 1, 160, .inl (fun x9 => nI (TP x9))) := (f_24 121 (by omega) (by omega) (by omega) (by omega)).trans h121_7
                have h127_24 : g_24 127 = .inl (cy 1, 5, .inl (fun x9 => nI (BGA x9))) := (f_24 127 (by omega) (by omega) (by omega) (by omega)).trans h127_7
                have h128_24 : g_24 128 = .inl (cy 1, 5, .inl (fun x9 => nI (RDA x9))) := (f_24 128 (by omega) (by omega) (by omega) (by omega)).trans h128_7
                have h122_24 : g_24 122 = .inl (cy 1, 8, .inl (fun x9 => nI (BY x9))) := (f_24 122 (by omega) (by omega) (by omega) (by omega)).trans h122_7
                have h123_24 : g_24 123 = .inl (cy 1, 1600, .inl (fun x9 => nI (BS x9))) := (f_24 123 (by omega) (by omega) (by omega) (by omega)).trans h123_7
                have h124_24 : g_24 124 = .inl (cy 1, 1600, .inl (fun x9 => nI (BN x9))) := (f_24 124 (by omega) (by omega) (by omega) (by omega)).trans h124_7
                have hfr_24 : ∀ j : Nat, j ≠ 114 → j ≠ 129 → j ≠ 125 → j ≠ 126 → j ≠ 127 → j ≠ 128 → g_24 j = g j := fun j n0 n1 n2 n3 n4 n5 => (f_24 j n0 n2 n3 n1).trans (hfr_7 j n0 n1 n2 n3 n4 n5)
                refine lv_goto (tgt := 45) hx hb dX10_figure_97 (by decide) ?_
                exact ih45 (i9 + 2) e8 nm2_24 dpA at2_24 sp2_24 tk2_24 vl2_24 wr2_24 wa2_24 NS2_24 NN2_24 BGA RDA IT2_24 (by rw [he0]; exact TJ_2 hS9 hQ9 htp (by rw [hk0]; decide) hR1 rfl (fun z => num_z z) (by rw [← hat9]; exact hX2_24)) (by omega) (by omega) g_24 _ _ h114_24 h125_24 h126_24 h127_24 h128_24 h129_24 hfr_24 hP hS _ (lv_sub hl [0, 1] rfl)
            refine lv_if_ne (tgt := 83) hx hb dX10_figure_60 (by decide) (fun c_60 => ?_) (fun c_60 => ?_)
            · skip
              have c_60 := (not_congr (z_eq (by omega))).mp c_60
              refine lv_iconst (v := nI (0)) hx hb dX10_figure_83 (by decide) ?_
              exact J84 0 (Or.inr ⟨rfl, fun z => by omega⟩) _ (lv_sub hl [0, 1] rfl)
            · skip
              have c_60 := (z_eq (by omega)).mp c_60
              refine lv_aload_n hx hb dX10_figure_63 rfl (lv_at hl 1 rfl) ?_
              refine mg S hK hP (by omega) h114_7 fd_X10_269 rfl dX10_figure_64 ?_
              refine lv_if_ne (tgt := 83) hx hb dX10_figure_67 (by decide) (fun c_67 => ?_) (fun c_67 => ?_)
              · skip
                have c_67 := (not_congr (z_eq (by omega))).mp c_67
                refine lv_iconst (v := nI (0)) hx hb dX10_figure_83 (by decide) ?_
                exact J84 0 (Or.inr ⟨rfl, fun z => by omega⟩) _ (lv_sub hl [0, 1] rfl)
              · skip
                have c_67 := (z_eq (by omega)).mp c_67
                refine lv_aload_n hx hb dX10_figure_70 rfl (lv_at hl 1 rfl) ?_
                refine mg S hK hP (by omega) h114_7 fd_X10_63 rfl dX10_figure_71 ?_
                refine lv_iconst (v := nI (0)) hx hb dX10_figure_74 (by decide) ?_
                refine mial S hK hP (by omega) h129_7 (vp_in_nI (by omega) (by omega)) dX10_figure_75 ?_
                refine tpi (congrArg ((fun x9 => nI (ITA x9))) (nI_clamp (by omega))) ?_
                refine lv_if_le (tgt := 83) hx hb dX10_figure_76 (by decide) (fun c_76 => ?_) (fun c_76 => ?_)
                · skip
                  have c_76 := (z_le (by omega)).mp c_76
                  refine lv_iconst (v := nI (0)) hx hb dX10_figure_83 (by decide) ?_
                  exact J84 0 (Or.inr ⟨rfl, fun z => by omega⟩) _ (lv_sub hl [0, 1] rfl)
                · skip
                  have c_76 := (not_congr (z_le (by omega))).mp c_76
                  refine lv_iconst (v := nI (1)) hx hb dX10_figure_79 (by decide) ?_
                  refine lv_goto (tgt := 84) hx hb dX10_figure_80 (by decide) ?_
                  exact J84 1 (Or.inl ⟨rfl, c_60, c_67, by omega⟩) _ (lv_sub hl [0, 1] rfl)
    exact L45 ((400 - 0) + 1) 0 0 0 0 at2_6 sp2_6 tk2_6 vl2_6 wr2_6 wa2_6 NS NN BG RD (va_up IT 0 0) (Or.inl ⟨0, y0, 0, rfl, ⟨rfl, hy0.2.2.2⟩, ⟨Nat.le_refl 0, Nat.zero_le _⟩, MPR_0 hy0.1.1 hy0.1.2 hy0.2.1.1 hy0.2.1.2 hy0.2.2.1, (hNX_6.resolve_left (fun z => z.1 rfl)).2⟩) (by omega) (Nat.lt_succ_self _) g_6 _ _ h114_6 h125_6 h126_6 h127_6 h128_6 h129_6 (fun j n0 n1 n2 n3 n4 n5 => hfr_6 j (by omega) (by omega)) hP hS _ (lv_sub hl [0, 1] rfl)
  · skip
    have c_6 := (nI_eq (by omega) (by omega)).mp c_6
    have hfi8n : ¬ fi < 8 := by omega
    refine lv_bipush (v := (-3)) hx hb dX10_figure_9 (by decide) ?_
    exact rMi S hr hlk hP hS ⟨at0, sp, tk, vl, wr0, wa, nm, dp, _, _, _, _, _, _, _, _, (if_neg hfi8n).symm, (by rw [if_neg (fun z => hfi8n z.1), if_neg (fun z => hfi8n z.1), if_neg (fun z => hfi8n z.1)]; exact hFR), (by rw [if_neg hfi8n, if_neg hfi8n, if_neg (fun z => hfi8n z.1)]; exact hM), hNS, hNN, hBG, hRD, hIT, hBY, hBS, hBN, (fun j n0 n1 n2 n3 n4 n5 n6 n7 n8 => hfr j )⟩ dX10_figure_11

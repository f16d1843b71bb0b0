set_option maxHeartbeats 4000000 in
set_option maxRecDepth 100000 in
theorem c_X6_write (l : Launch) (D : va_G) (cy : Nat → ClassId) (ad : Nat → Nat) (N : Nat) (g : Nat → va_E) (hinj : ∀ i j : Nat, i < N → j < N → ad i = ad j → i = j) (b : Nat) (hbN : b + 5 ≤ N) (ps : PS) (ft : Nat) (fp : Nat) (hg : g b = .inr (6, [.ref (ad (b + 1)), .ref (ad (b + 3)), .ref (ad (b + 4)), .int (nI (pOp ps)), .int (nI (pWt ps)), .int (nI (pLt ps)), .int (nI (pRd ps)), .int (nI (pEm ps)), .int (nI (pOv ps)), .int (nI (ft)), .int (nI (fp))])) (hgd : g (b + 1) = .inr (0, [.ref (ad (b + 2)), .int (nI (pLen ps))])) (hgb : g (b + 2) = .inl (cy 0, 200, .inl (fun x9 => nI ((pB ps) x9)))) (hgs : g (b + 3) = .inl (cy 1, 4, .inl (fun x9 => nI ((pSt ps) x9)))) (hgt : g (b + 4) = .inl (cy 1, 4, .inl (fun x9 => nI ((pTm ps) x9)))) (hps : POK ps) (s1 : Nat) (n1 : Nat) (hv : 8 * s1 + n1 < 64) : Met l yX6_write (WS yX6_write cX6_write 3 none) (rmF 1 21) (PP [.ref (ad b), .int (nI (s1)), .int (nI (n1))] D cy ad N g) (QV (fun g1 => g1 b = .inr (6, [.ref (ad (b + 1)), .ref (ad (b + 3)), .ref (ad (b + 4)), .int (nI (pOp (wrP (8 * s1 + n1) ps))), .int (nI (pWt (wrP (8 * s1 + n1) ps))), .int (nI (pLt (wrP (8 * s1 + n1) ps))), .int (nI (pRd (wrP (8 * s1 + n1) ps))), .int (nI (pEm (wrP (8 * s1 + n1) ps))), .int (nI (pOv (wrP (8 * s1 + n1) ps))), .int (nI (ft)), .int (nI (fp))]) ∧ g1 (b + 1) = .inr (0, [.ref (ad (b + 2)), .int (nI (pLen (wrP (8 * s1 + n1) ps)))]) ∧ g1 (b + 2) = .inl (cy 0, 200, .inl (fun x9 => nI ((pB (wrP (8 * s1 + n1) ps)) x9))) ∧ g1 (b + 3) = .inl (cy 1, 4, .inl (fun x9 => nI ((pSt (wrP (8 * s1 + n1) ps)) x9))) ∧ g1 (b + 4) = .inl (cy 1, 4, .inl (fun x9 => nI ((pTm (wrP (8 * s1 + n1) ps)) x9))) ∧ (∀ j, (j < b ∨ b + 5 ≤ j) → g1 j = g j)) D ad N) 0 0 (AA ad N) := by
  refine mentry (by decide) (Nat.le_of_ble_eq_true rfl) (fun p e s m below meth c ls S hr hlk hnm hP hK hl => ?_)
  have S : CallFix p m c cX6_write 3 s _ wsL_law RX6 := S
  have hx := S.1
  have hb := S.2.1
  have hl : lv_has ls 3 [(0, .ref (ad b)), (1, .int (nI (s1))), (2, .int (nI (n1)))] := hl
  have hI : MD (AA ad N) ad N := MD.in hinj
  have hS : va_S (AA ad N) s.heap s.heap [] := va_S.rf
  have hfr : ∀ j : Nat, g j = g j := fun _ => rfl
  have hL := hps.1.1
  have hB := hps.1.2
  have hOp := hps.2.1.1
  have hWt := hps.2.1.2.1
  have hLt := hps.2.1.2.2.1
  have hRd := hps.2.1.2.2.2.1
  have hEm := hps.2.1.2.2.2.2.1
  have hOv := hps.2.1.2.2.2.2.2
  refine lv_aload_n hx hb dX6_write_0 rfl (lv_at hl 0 rfl) ?_
  refine lv_aload_n hx hb dX6_write_1 rfl (lv_at hl 0 rfl) ?_
  refine mg S hK hP (by omega) hg fd_X6_12 rfl dX6_write_2 ?_
  refine lv_bipush (v := nI (8)) hx hb dX6_write_5 (by decide) ?_
  refine lv_iload_n hx hb dX6_write_7 rfl (lv_at hl 1 rfl) ?_
  refine lv_imul hx hb dX6_write_8 ?_
  refine tpi (pk_mul 8 s1) ?_
  refine lv_iload_n hx hb dX6_write_9 rfl (lv_at hl 2 rfl) ?_
  refine lv_iadd hx hb dX6_write_10 ?_
  refine tpi (nI_add (8 * s1) n1) ?_
  refine kMi (As := [.int (nI ((8 * s1) + n1))]) (rest := [.ref (ad b)]) S hK hP hS (fun _ h => h) (c_X0_append l D cy ad N g hinj (b + 1) (by omega) (b + 2) (by omega) (pLen ps) (pB ps) hgd hgb (by omega) hL hB ((8 * s1) + n1) (by omega)) cv_X6_110 (by omega) hgd ⟨_, _, rfl⟩ ⟨rfl, rfl⟩ rfl hl.1 rfl (Nat.le_of_ble_eq_true rfl) ⟨Nat.zero_le _, Nat.zero_le _⟩ dX6_write_11 (fun r_11 g_1 H locs q_1 hP hS => ?_)
  obtain ⟨q_11, h_b___1__1, h_b___2__1, f_1⟩ := q_1
  subst q_11
  have hb_1 : g_1 b = .inr (6, [.ref (ad (b + 1)), .ref (ad (b + 3)), .ref (ad (b + 4)), .int (nI (pOp ps)), .int (nI (pWt ps)), .int (nI (pLt ps)), .int (nI (pRd ps)), .int (nI (pEm ps)), .int (nI (pOv ps)), .int (nI (ft)), .int (nI (fp))]) := (f_1 b (by omega) (by omega)).trans hg
  have hb___3_1 : g_1 (b + 3) = .inl (cy 1, 4, .inl (fun x9 => nI ((pSt ps) x9))) := (f_1 (b + 3) (by omega) (by omega)).trans hgs
  have hb___4_1 : g_1 (b + 4) = .inl (cy 1, 4, .inl (fun x9 => nI ((pTm ps) x9))) := (f_1 (b + 4) (by omega) (by omega)).trans hgt
  have hfr_1 : ∀ j : Nat, j ≠ (b + 1) → j ≠ (b + 2) → g_1 j = g j := fun j n0 n1 => (f_1 j n0 n1).trans (hfr j )
  refine lv_if_ne (tgt := 21) hx hb dX6_write_14 (by decide) (fun c_14 => ?_) (fun c_14 => ?_)
  · skip
    have c_14 := bz_ne.mp c_14
    have hwr := wrP_1 (v := 8 * s1 + n1) c_14
    refine lv_iconst (v := nI (0)) hx hb dX6_write_21 (by decide) ?_
    refine mp S hK hP hI hS (by omega) hb_1 fd_X6_53 (nz_01 (by first | exact Or.inl rfl | exact Or.inr rfl)) (fz_01 (by first | exact Or.inl rfl | exact Or.inr rfl)) (Nat.le_of_ble_eq_true rfl) dX6_write_22 (fun g_2 H locs eg_2 hP hS => ?_)
    have hb_2 : g_2 b = .inr (6, [.ref (ad (b + 1)), .ref (ad (b + 3)), .ref (ad (b + 4)), .int (nI (pOp ps)), .int (nI (pWt ps)), .int (nI (pLt ps)), .int (nI (pRd ps)), .int (nI (pEm ps)), .int (nI (0)), .int (nI (ft)), .int (nI (fp))]) := by rw [eg_2, va_up_self]; exact rfl
    have hb___1_2 : g_2 (b + 1) = .inr (0, [.ref (ad (b + 2)), .int (nI (apL (pLen ps)))]) := ((congrFun eg_2 _).trans (va_up_ne _ _ (by omega))).trans h_b___1__1
    have hb___2_2 : g_2 (b + 2) = .inl (cy 0, 200, .inl (fun x9 => nI ((apB (pB ps) (pLen ps) ((8 * s1) + n1)) x9))) := ((congrFun eg_2 _).trans (va_up_ne _ _ (by omega))).trans h_b___2__1
    have hb___3_2 : g_2 (b + 3) = .inl (cy 1, 4, .inl (fun x9 => nI ((pSt ps) x9))) := ((congrFun eg_2 _).trans (va_up_ne _ _ (by omega))).trans hb___3_1
    have hb___4_2 : g_2 (b + 4) = .inl (cy 1, 4, .inl (fun x9 => nI ((pTm ps) x9))) := ((congrFun eg_2 _).trans (va_up_ne _ _ (by omega))).trans hb___4_1
    have hfr_2 : ∀ j : Nat, j ≠ (b + 1) → j ≠ (b + 2) → j ≠ b → g_2 j = g j := fun j n0 n1 n2 => ((congrFun eg_2 _).trans (va_up_ne _ _ n2)).trans (hfr_1 j n0 n1)
    refine lv_aload_n hx hb dX6_write_25 rfl (lv_at hl 0 rfl) ?_
    refine lv_iconst (v := nI (0)) hx hb dX6_write_26 (by decide) ?_
    refine mp S hK hP hI hS (by omega) hb_2 fd_X6_66 (nz_01 (by first | exact Or.inl rfl | exact Or.inr rfl)) (fz_01 (by first | exact Or.inl rfl | exact Or.inr rfl)) (Nat.le_of_ble_eq_true rfl) dX6_write_27 (fun g_3 H locs eg_3 hP hS => ?_)
    have hb_3 : g_3 b = .inr (6, [.ref (ad (b + 1)), .ref (ad (b + 3)), .ref (ad (b + 4)), .int (nI (pOp ps)), .int (nI (pWt ps)), .int (nI (pLt ps)), .int (nI (pRd ps)), .int (nI (0)), .int (nI (0)), .int (nI (ft)), .int (nI (fp))]) := by rw [eg_3, va_up_self]; exact rfl
    have hb___1_3 : g_3 (b + 1) = .inr (0, [.ref (ad (b + 2)), .int (nI (apL (pLen ps)))]) := ((congrFun eg_3 _).trans (va_up_ne _ _ (by omega))).trans hb___1_2
    have hb___2_3 : g_3 (b + 2) = .inl (cy 0, 200, .inl (fun x9 => nI ((apB (pB ps) (pLen ps) ((8 * s1) + n1)) x9))) := ((congrFun eg_3 _).trans (va_up_ne _ _ (by omega))).trans hb___2_2
    have hb___3_3 : g_3 (b + 3) = .inl (cy 1, 4, .inl (fun x9 => nI ((pSt ps) x9))) := ((congrFun eg_3 _).trans (va_up_ne _ _ (by omega))).trans hb___3_2
    have hb___4_3 : g_3 (b + 4) = .inl (cy 1, 4, .inl (fun x9 => nI ((pTm ps) x9))) := ((congrFun eg_3 _).trans (va_up_ne _ _ (by omega))).trans hb___4_2
    have hfr_3 : ∀ j : Nat, j ≠ (b + 1) → j ≠ (b + 2) → j ≠ b → g_3 j = g j := fun j n0 n1 n2 => ((congrFun eg_3 _).trans (va_up_ne _ _ n2)).trans (hfr_2 j n0 n1 n2)
    exact rMv S hr hlk hP hS ⟨(by first | exact hb_3 | (rw [hwr]; exact hb_3)), (by first | exact hb___1_3 | (rw [hwr]; exact hb___1_3)), (by first | exact hb___2_3 | (rw [hwr]; exact hb___2_3)), (by first | exact hb___3_3 | (rw [hwr]; exact hb___3_3)), (by first | exact hb___4_3 | (rw [hwr]; exact hb___4_3)), (fun j n0 => hfr_3 j (by omega) (by omega) (by omega))⟩ dX6_write_30
  · skip
    have c_14 := bz_eq.mp c_14
    have hwr := wrP_2 (v := 8 * s1 + n1) c_14
    refine lv_iconst (v := nI (1)) hx hb dX6_write_17 (by decide) ?_
    refine lv_goto (tgt := 22) hx hb dX6_write_18 (by decide) ?_
    refine mp S hK hP hI hS (by omega) hb_1 fd_X6_53 (nz_01 (by first | exact Or.inl rfl | exact Or.inr rfl)) (fz_01 (by first | exact Or.inl rfl | exact Or.inr rfl)) (Nat.le_of_ble_eq_true rfl) dX6_write_22 (fun g_4 H locs eg_4 hP hS => ?_)
    have hb_4 : g_4 b = .inr (6, [.ref (ad (b + 1)), .ref (ad (b + 3)), .ref (ad (b + 4)), .int (nI (pOp ps)), .int (nI (pWt ps)), .int (nI (pLt ps)), .int (nI (pRd ps)), .int (nI (pEm ps)), .int (nI (1)), .int (nI (ft)), .int (nI (fp))]) := by rw [eg_4, va_up_self]; exact rfl
    have hb___1_4 : g_4 (b + 1) = .inr (0, [.ref (ad (b + 2)), .int (nI (apL (pLen ps)))]) := ((congrFun eg_4 _).trans (va_up_ne _ _ (by omega))).trans h_b___1__1
    have hb___2_4 : g_4 (b + 2) = .inl (cy 0, 200, .inl (fun x9 => nI ((apB (pB ps) (pLen ps) ((8 * s1) + n1)) x9))) := ((congrFun eg_4 _).trans (va_up_ne _ _ (by omega))).trans h_b___2__1
    have hb___3_4 : g_4 (b + 3) = .inl (cy 1, 4, .inl (fun x9 => nI ((pSt ps) x9))) := ((congrFun eg_4 _).trans (va_up_ne _ _ (by omega))).trans hb___3_1
    have hb___4_4 : g_4 (b + 4) = .inl (cy 1, 4, .inl (fun x9 => nI ((pTm ps) x9))) := ((congrFun eg_4 _).trans (va_up_ne _ _ (by omega))).trans hb___4_1
    have hfr_4 : ∀ j : Nat, j ≠ (b + 1) → j ≠ (b + 2) → j ≠ b → g_4 j = g j := fun j n0 n1 n2 => ((congrFun eg_4 _).trans (va_up_ne _ _ n2)).trans (hfr_1 j n0 n1)
    refine lv_aload_n hx hb dX6_write_25 rfl (lv_at hl 0 rfl) ?_
    refine lv_iconst (v := nI (0)) hx hb dX6_write_26 (by decide) ?_
    refine mp S hK hP hI hS (by omega) hb_4 fd_X6_66 (nz_01 (by first | exact Or.inl rfl | exact Or.inr rfl)) (fz_01 (by first | exact Or.inl rfl | exact Or.inr rfl)) (Nat.le_of_ble_eq_true rfl) dX6_write_27 (fun g_5 H locs eg_5 hP hS => ?_)
    have hb_5 : g_5 b = .inr (6, [.ref (ad (b + 1)), .ref (ad (b + 3)), .ref (ad (b + 4)), .int (nI (pOp ps)), .int (nI (pWt ps)), .int (nI (pLt ps)), .int (nI (pRd ps)), .int (nI (0)), .int (nI (1)), .int (nI (ft)), .int (nI (fp))]) := by rw [eg_5, va_up_self]; exact rfl
    have hb___1_5 : g_5 (b + 1) = .inr (0, [.ref (ad (b + 2)), .int (nI (apL (pLen ps)))]) := ((congrFun eg_5 _).trans (va_up_ne _ _ (by omega))).trans hb___1_4
    have hb___2_5 : g_5 (b + 2) = .inl (cy 0, 200, .inl (fun x9 => nI ((apB (pB ps) (pLen ps) ((8 * s1) + n1)) x9))) := ((congrFun eg_5 _).trans (va_up_ne _ _ (by omega))).trans hb___2_4
    have hb___3_5 : g_5 (b + 3) = .inl (cy 1, 4, .inl (fun x9 => nI ((pSt ps) x9))) := ((congrFun eg_5 _).trans (va_up_ne _ _ (by omega))).trans hb___3_4
    have hb___4_5 : g_5 (b + 4) = .inl (cy 1, 4, .inl (fun x9 => nI ((pTm ps) x9))) := ((congrFun eg_5 _).trans (va_up_ne _ _ (by omega))).trans hb___4_4
    have hfr_5 : ∀ j : Nat, j ≠ (b + 1) → j ≠ (b + 2) → j ≠ b → g_5 j = g j := fun j n0 n1 n2 => ((congrFun eg_5 _).trans (va_up_ne _ _ n2)).trans (hfr_4 j n0 n1 n2)
    exact rMv S hr hlk hP hS ⟨(by first | exact hb_5 | (rw [hwr]; exact hb_5)), (by first | exact hb___1_5 | (rw [hwr]; exact hb___1_5)), (by first | exact hb___2_5 | (rw [hwr]; exact hb___2_5)), (by first | exact hb___3_5 | (rw [hwr]; exact hb___3_5)), (by first | exact hb___4_5 | (rw [hwr]; exact hb___4_5)), (fun j n0 => hfr_5 j (by omega) (by omega) (by omega))⟩ dX6_write_30
set_option maxHeartbeats 4000000 in
set_option maxRecDepth 100000 in
theorem c_X6_begin (l : Launch) (D : va_G) (cy : Nat → ClassId) (ad : Nat → Nat) (N : Nat) (g : Nat → va_E) (hinj : ∀ i j : Nat, i < N → j < N → ad i = ad j → i = j) (b : Nat) (hbN : b + 5 ≤ N) (ps : PS) (ft : Nat) (fp : Nat) (hg : g b = .inr (6, [.ref (ad (b + 1)), .ref (ad (b + 3)), .ref (ad (b + 4)), .int (nI (pOp ps)), .int (nI (pWt ps)), .int (nI (pLt ps)), .int (nI (pRd ps)), .int (nI (pEm ps)), .int (nI (pOv ps)), .int (nI (ft)), .int (nI (fp))])) (hgd : g (b + 1) = .inr (0, [.ref (ad (b + 2)), .int (nI (pLen ps))])) (hgb : g (b + 2) = .inl (cy 0, 200, .inl (fun x9 => nI ((pB ps) x9)))) (hgs : g (b + 3) = .inl (cy 1, 4, .inl (fun x9 => nI ((pSt ps) x9)))) (hgt : g (b + 4) = .inl (cy 1, 4, .inl (fun x9 => nI ((pTm ps) x9)))) (hps : POK ps) : Met l yX6_begin (WS yX6_begin cX6_begin 1 none) (rmF 0 0) (PP [.ref (ad b)] D cy ad N g) (QV (fun g1 => g1 b = .inr (6, [.ref (ad (b + 1)), .ref (ad (b + 3)), .ref (ad (b + 4)), .int (nI (pOp ((0, pB ps, pSt ps, pTm ps, 0, 0, pLt ps, pRd ps, 1, 0)))), .int (nI (pWt ((0, pB ps, pSt ps, pTm ps, 0, 0, pLt ps, pRd ps, 1, 0)))), .int (nI (pLt ((0, pB ps, pSt ps, pTm ps, 0, 0, pLt ps, pRd ps, 1, 0)))), .int (nI (pRd ((0, pB ps, pSt ps, pTm ps, 0, 0, pLt ps, pRd ps, 1, 0)))), .int (nI (pEm ((0, pB ps, pSt ps, pTm ps, 0, 0, pLt ps, pRd ps, 1, 0)))), .int (nI (pOv ((0, pB ps, pSt ps, pTm ps, 0, 0, pLt ps, pRd ps, 1, 0)))), .int (nI (0)), .int (nI (0))]) ∧ g1 (b + 1) = .inr (0, [.ref (ad (b + 2)), .int (nI (pLen ((0, pB ps, pSt ps, pTm ps, 0, 0, pLt ps, pRd ps, 1, 0))))]) ∧ g1 (b + 2) = .inl (cy 0, 200, .inl (fun x9 => nI ((pB ((0, pB ps, pSt ps, pTm ps, 0, 0, pLt ps, pRd ps, 1, 0))) x9))) ∧ g1 (b + 3) = .inl (cy 1, 4, .inl (fun x9 => nI ((pSt ((0, pB ps, pSt ps, pTm ps, 0, 0, pLt ps, pRd ps, 1, 0))) x9))) ∧ g1 (b + 4) = .inl (cy 1, 4, .inl (fun x9 => nI ((pTm ((0, pB ps, pSt ps, pTm ps, 0, 0, pLt ps, pRd ps, 1, 0))) x9))) ∧ (∀ j, (j < b ∨ b + 5 ≤ j) → g1 j = g j)) D ad N) 0 0 (AA ad N) := by
  refine mentry (by decide) (Nat.le_of_ble_eq_true rfl) (fun p e s m below meth c ls S hr hlk hnm hP hK hl => ?_)
  have S : CallFix p m c cX6_begin 1 s _ wsL_law RX6 := S
  have hx := S.1
  have hb := S.2.1
  have hl : lv_has ls 1 [(0, .ref (ad b))] := hl
  have hI : MD (AA ad N) ad N := MD.in hinj
  have hS : va_S (AA ad N) s.heap s.heap [] := va_S.rf
  have hfr : ∀ j : Nat, g j = g j := fun _ => rfl
  have hL := hps.1.1
  have hB := hps.1.2
  have hOp := hps.2.1.1
  have hWt := hps.2.1.2.1
  have hLt := hps.2.1.2.2.1
  have hRd := hps.2.1.2.2.2.1
  have hEm := hps.2.1.2.2.2.2.1
  have hOv := hps.2.1.2.2.2.2.2
  refine lv_aload_n hx hb dX6_begin_0 rfl (lv_at hl 0 rfl) ?_
  refine mg S hK hP (by omega) hg fd_X6_12 rfl dX6_begin_1 ?_
  refine lv_iconst (v := nI (0)) hx hb dX6_begin_4 (by decide) ?_
  refine mp S hK hP hI hS (by omega) hgd fd_X6_57 rfl rfl (Nat.le_of_ble_eq_true rfl) dX6_begin_5 (fun g_1 H locs eg_1 hP hS => ?_)
  have hb___1_1 : g_1 (b + 1) = .inr (0, [.ref (ad (b + 2)), .int (nI (0))]) := by rw [eg_1, va_up_self]; exact rfl
  have hb_1 : g_1 b = .inr (6, [.ref (ad (b + 1)), .ref (ad (b + 3)), .ref (ad (b + 4)), .int (nI (pOp ps)), .int (nI (pWt ps)), .int (nI (pLt ps)), .int (nI (pRd ps)), .int (nI (pEm ps)), .int (nI (pOv ps)), .int (nI (ft)), .int (nI (fp))]) := ((congrFun eg_1 _).trans (va_up_ne _ _ (by omega))).trans hg
  have hb___2_1 : g_1 (b + 2) = .inl (cy 0, 200, .inl (fun x9 => nI ((pB ps) x9))) := ((congrFun eg_1 _).trans (va_up_ne _ _ (by omega))).trans hgb
  have hb___3_1 : g_1 (b + 3) = .inl (cy 1, 4, .inl (fun x9 => nI ((pSt ps) x9))) := ((congrFun eg_1 _).trans (va_up_ne _ _ (by omega))).trans hgs
  have hb___4_1 : g_1 (b + 4) = .inl (cy 1, 4, .inl (fun x9 => nI ((pTm ps) x9))) := ((congrFun eg_1 _).trans (va_up_ne _ _ (by omega))).trans hgt
  have hfr_1 : ∀ j : Nat, j ≠ (b + 1) → g_1 j = g j := fun j n0 => ((congrFun eg_1 _).trans (va_up_ne _ _ n0)).trans (hfr j )
  refine lv_aload_n hx hb dX6_begin_8 rfl (lv_at hl 0 rfl) ?_
  refine lv_iconst (v := nI (0)) hx hb dX6_begin_9 (by decide) ?_
  refine mp S hK hP hI hS (by omega) hb_1 fd_X6_60 rfl rfl (Nat.le_of_ble_eq_true rfl) dX6_begin_10 (fun g_2 H locs eg_2 hP hS => ?_)
  have hb_2 : g_2 b = .inr (6, [.ref (ad (b + 1)), .ref (ad (b + 3)), .ref (ad (b + 4)), .int (nI (0)), .int (nI (pWt ps)), .int (nI (pLt ps)), .int (nI (pRd ps)), .int (nI (pEm ps)), .int (nI (pOv ps)), .int (nI (ft)), .int (nI (fp))]) := by rw [eg_2, va_up_self]; exact rfl
  have hb___1_2 : g_2 (b + 1) = .inr (0, [.ref (ad (b + 2)), .int (nI (0))]) := ((congrFun eg_2 _).trans (va_up_ne _ _ (by omega))).trans hb___1_1
  have hb___2_2 : g_2 (b + 2) = .inl (cy 0, 200, .inl (fun x9 => nI ((pB ps) x9))) := ((congrFun eg_2 _).trans (va_up_ne _ _ (by omega))).trans hb___2_1
  have hb___3_2 : g_2 (b + 3) = .inl (cy 1, 4, .inl (fun x9 => nI ((pSt ps) x9))) := ((congrFun eg_2 _).trans (va_up_ne _ _ (by omega))).trans hb___3_1
  have hb___4_2 : g_2 (b + 4) = .inl (cy 1, 4, .inl (fun x9 => nI ((pTm ps) x9))) := ((congrFun eg_2 _).trans (va_up_ne _ _ (by omega))).trans hb___4_1
  have hfr_2 : ∀ j : Nat, j ≠ (b + 1) → j ≠ b → g_2 j = g j := fun j n0 n1 => ((congrFun eg_2 _).trans (va_up_ne _ _ n1)).trans (hfr_1 j n0)
  refine lv_aload_n hx hb dX6_begin_13 rfl (lv_at hl 0 rfl) ?_
  refine lv_iconst (v := nI (0)) hx hb dX6_begin_14 (by decide) ?_
  refine mp S hK hP hI hS (by omega) hb_2 fd_X6_63 rfl rfl (Nat.le_of_ble_eq_true rfl) dX6_begin_15 (fun g_3 H locs eg_3 hP hS => ?_)
  have hb_3 : g_3 b = .inr (6, [.ref (ad (b + 1)), .ref (ad (b + 3)), .ref (ad (b + 4)), .int (nI (0)), .int (nI (0)), .int (nI (pLt ps)), .int (nI (pRd ps)), .int (nI (pEm ps)), .int (nI (pOv ps)), .int (nI (ft)), .int (nI (fp))]) := by rw [eg_3, va_up_self]; exact rfl
  have hb___1_3 : g_3 (b + 1) = .inr (0, [.ref (ad (b + 2)), .int (nI (0))]) := ((congrFun eg_3 _).trans (va_up_ne _ _ (by omega))).trans hb___1_2
  have hb___2_3 : g_3 (b + 2) = .inl (cy 0, 200, .inl (fun x9 => nI ((pB ps) x9))) := ((congrFun eg_3 _).trans (va_up_ne _ _ (by omega))).trans hb___2_2
  have hb___3_3 : g_3 (b + 3) = .inl (cy 1, 4, .inl (fun x9 => nI ((pSt ps) x9))) := ((congrFun eg_3 _).trans (va_up_ne _ _ (by omega))).trans hb___3_2
  have hb___4_3 : g_3 (b + 4) = .inl (cy 1, 4, .inl (fun x9 => nI ((pTm ps) x9))) := ((congrFun eg_3 _).trans (va_up_ne _ _ (by omega))).trans hb___4_2
  have hfr_3 : ∀ j : Nat, j ≠ (b + 1) → j ≠ b → g_3 j = g j := fun j n0 n1 => ((congrFun eg_3 _).trans (va_up_ne _ _ n1)).trans (hfr_2 j n0 n1)
  refine lv_aload_n hx hb dX6_begin_18 rfl (lv_at hl 0 rfl) ?_
  refine lv_iconst (v := nI (1)) hx hb dX6_begin_19 (by decide) ?_
  refine mp S hK hP hI hS (by omega) hb_3 fd_X6_66 (nz_01 (by first | exact Or.inl rfl | exact Or.inr rfl)) (fz_01 (by first | exact Or.inl rfl | exact Or.inr rfl)) (Nat.le_of_ble_eq_true rfl) dX6_begin_20 (fun g_4 H locs eg_4 hP hS => ?_)
  have hb_4 : g_4 b = .inr (6, [.ref (ad (b + 1)), .ref (ad (b + 3)), .ref (ad (b + 4)), .int (nI (0)), .int (nI (0)), .int (nI (pLt ps)), .int (nI (pRd ps)), .int (nI (1)), .int (nI (pOv ps)), .int (nI (ft)), .int (nI (fp))]) := by rw [eg_4, va_up_self]; exact rfl
  have hb___1_4 : g_4 (b + 1) = .inr (0, [.ref (ad (b + 2)), .int (nI (0))]) := ((congrFun eg_4 _).trans (va_up_ne _ _ (by omega))).trans hb___1_3
  have hb___2_4 : g_4 (b + 2) = .inl (cy 0, 200, .inl (fun x9 => nI ((pB ps) x9))) := ((congrFun eg_4 _).trans (va_up_ne _ _ (by omega))).trans hb___2_3
  have hb___3_4 : g_4 (b + 3) = .inl (cy 1, 4, .inl (fun x9 => nI ((pSt ps) x9))) := ((congrFun eg_4 _).trans (va_up_ne _ _ (by omega))).trans hb___3_3
  have hb___4_4 : g_4 (b + 4) = .inl (cy 1, 4, .inl (fun x9 => nI ((pTm ps) x9))) := ((congrFun eg_4 _).trans (va_up_ne _ _ (by omega))).trans hb___4_3
  have hfr_4 : ∀ j : Nat, j ≠ (b + 1) → j ≠ b → g_4 j = g j := fun j n0 n1 => ((congrFun eg_4 _).trans (va_up_ne _ _ n1)).trans (hfr_3 j n0 n1)
  refine lv_aload_n hx hb dX6_begin_23 rfl (lv_at hl 0 rfl) ?_
  refine lv_iconst (v := nI (0)) hx hb dX6_begin_24 (by decide) ?_
  refine mp S hK hP hI hS (by omega) hb_4 fd_X6_53 (nz_01 (by first | exact Or.inl rfl | exact Or.inr rfl)) (fz_01 (by first | exact Or.inl rfl | exact Or.inr rfl)) (Nat.le_of_ble_eq_true rfl) dX6_begin_25 (fun g_5 H locs eg_5 hP hS => ?_)
  have hb_5 : g_5 b = .inr (6, [.ref (ad (b + 1)), .ref (ad (b + 3)), .ref (ad (b + 4)), .int (nI (0)), .int (nI (0)), .int (nI (pLt ps)), .int (nI (pRd ps)), .int (nI (1)), .int (nI (0)), .int (nI (ft)), .int (nI (fp))]) := by rw [eg_5, va_up_self]; exact rfl
  have hb___1_5 : g_5 (b + 1) = .inr (0, [.ref (ad (b + 2)), .int (nI (0))]) := ((congrFun eg_5 _).trans (va_up_ne _ _ (by omega))).trans hb___1_4
  have hb___2_5 : g_5 (b + 2) = .inl (cy 0, 200, .inl (fun x9 => nI ((pB ps) x9))) := ((congrFun eg_5 _).trans (va_up_ne _ _ (by omega))).trans hb___2_4
  have hb___3_5 : g_5 (b + 3) = .inl (cy 1, 4, .inl (fun x9 => nI ((pSt ps) x9))) := ((congrFun eg_5 _).trans (va_up_ne _ _ (by omega))).trans hb___3_4
  have hb___4_5 : g_5 (b + 4) = .inl (cy 1, 4, .inl (fun x9 => nI ((pTm ps) x9))) := ((congrFun eg_5 _).trans (va_up_ne _ _ (by omega))).trans hb___4_4
  have hfr_5 : ∀ j : Nat, j ≠ (b + 1) → j ≠ b → g_5 j = g j := fun j n0 n1 => ((congrFun eg_5 _).trans (va_up_ne _ _ n1)).trans (hfr_4 j n0 n1)
  refine lv_aload_n hx hb dX6_begin_28 rfl (lv_at hl 0 rfl) ?_
  refine lv_iconst (v := nI (0)) hx hb dX6_begin_29 (by decide) ?_
  refine mp S hK hP hI hS (by omega) hb_5 fd_X6_40 rfl rfl (Nat.le_of_ble_eq_true rfl) dX6_begin_30 (fun g_6 H locs eg_6 hP hS => ?_)
  have hb_6 : g_6 b = .inr (6, [.ref (ad (b + 1)), .ref (ad (b + 3)), .ref (ad (b + 4)), .int (nI (0)), .int (nI (0)), .int (nI (pLt ps)), .int (nI (pRd ps)), .int (nI (1)), .int (nI (0)), .int (nI (0)), .int (nI (fp))]) := by rw [eg_6, va_up_self]; exact rfl
  have hb___1_6 : g_6 (b + 1) = .inr (0, [.ref (ad (b + 2)), .int (nI (0))]) := ((congrFun eg_6 _).trans (va_up_ne _ _ (by omega))).trans hb___1_5
  have hb___2_6 : g_6 (b + 2) = .inl (cy 0, 200, .inl (fun x9 => nI ((pB ps) x9))) := ((congrFun eg_6 _).trans (va_up_ne _ _ (by omega))).trans hb___2_5
  have hb___3_6 : g_6 (b + 3) = .inl (cy 1, 4, .inl (fun x9 => nI ((pSt ps) x9))) := ((congrFun eg_6 _).trans (va_up_ne _ _ (by omega))).trans hb___3_5
  have hb___4_6 : g_6 (b + 4) = .inl (cy 1, 4, .inl (fun x9 => nI ((pTm ps) x9))) := ((congrFun eg_6 _).trans (va_up_ne _ _ (by omega))).trans hb___4_5
  have hfr_6 : ∀ j : Nat, j ≠ (b + 1) → j ≠ b → g_6 j = g j := fun j n0 n1 => ((congrFun eg_6 _).trans (va_up_ne _ _ n1)).trans (hfr_5 j n0 n1)
  refine lv_aload_n hx hb dX6_begin_33 rfl (lv_at hl 0 rfl) ?_
  refine lv_iconst (v := nI (0)) hx hb dX6_begin_34 (by decide) ?_
  refine mp S hK hP hI hS (by omega) hb_6 fd_X6_47 rfl rfl (Nat.le_of_ble_eq_true rfl) dX6_begin_35 (fun g_7 H locs eg_7 hP hS => ?_)
  have hb_7 : g_7 b = .inr (6, [.ref (ad (b + 1)), .ref (ad (b + 3)), .ref (ad (b + 4)), .int (nI (0)), .int (nI (0)), .int (nI (pLt ps)), .int (nI (pRd ps)), .int (nI (1)), .int (nI (0)), .int (nI (0)), .int (nI (0))]) := by rw [eg_7, va_up_self]; exact rfl
  have hb___1_7 : g_7 (b + 1) = .inr (0, [.ref (ad (b + 2)), .int (nI (0))]) := ((congrFun eg_7 _).trans (va_up_ne _ _ (by omega))).trans hb___1_6
  have hb___2_7 : g_7 (b + 2) = .inl (cy 0, 200, .inl (fun x9 => nI ((pB ps) x9))) := ((congrFun eg_7 _).trans (va_up_ne _ _ (by omega))).trans hb___2_6
  have hb___3_7 : g_7 (b + 3) = .inl (cy 1, 4, .inl (fun x9 => nI ((pSt ps) x9))) := ((congrFun eg_7 _).trans (va_up_ne _ _ (by omega))).trans hb___3_6
  have hb___4_7 : g_7 (b + 4) = .inl (cy 1, 4, .inl (fun x9 => nI ((pTm ps) x9))) := ((congrFun eg_7 _).trans (va_up_ne _ _ (by omega))).trans hb___4_6
  have hfr_7 : ∀ j : Nat, j ≠ (b + 1) → j ≠ b → g_7 j = g j := fun j n0 n1 => ((congrFun eg_7 _).trans (va_up_ne _ _ n1)).trans (hfr_6 j n0 n1)
  exact rMv S hr hlk hP hS ⟨hb_7, hb___1_7, hb___2_7, hb___3_7, hb___4_7, (fun j n0 => hfr_7 j (by omega) (by omega))⟩ dX6_begin_38
set_option maxHeartbeats 4000000 in
set_option maxRecDepth 100000 in
theorem c_X6_writeOut (l : Launch) (D : va_G) (cy : Nat → ClassId) (ad : Nat → Nat) (N : Nat) (g : Nat → va_E) (hinj : ∀ i j : Nat, i < N → j < N → ad i = ad j → i = j) (b : Nat) (hbN : b + 5 ≤ N) (ps : PS) (ft : Nat) (fp : Nat) (hg : g b = .inr (6, [.ref (ad (b + 1)), .ref (ad (b + 3)), .ref (ad (b + 4)), .int (nI (pOp ps)), .int (nI (pWt ps)), .int (nI (pLt ps)), .int (nI (pRd ps)), .int (nI (pEm ps)), .int (nI (pOv ps)), .int (nI (ft)), .int (nI (fp))])) (hgd : g (b + 1) = .inr (0, [.ref (ad (b + 2)), .int (nI (pLen ps))])) (hgb : g (b + 2) = .inl (cy 0, 200, .inl (fun x9 => nI ((pB ps) x9)))) (hgs : g (b + 3) = .inl (cy 1, 4, .inl (fun x9 => nI ((pSt ps) x9)))) (hgt : g (b + 4) = .inl (cy 1, 4, .inl (fun x9 => nI ((pTm ps) x9)))) (hps : POK ps) (kf : Nat) (hkf : kf < N) (kfb : Nat) (hkfb : kfb < N) (lenf : Nat) (Bf : Nat → Nat) (hgf : g kf = .inr (0, [.ref (ad kfb), .int (nI (lenf))])) (hgfb : g kfb = .inl (cy 0, 200, .inl (fun x9 => nI (Bf x9)))) (hko : (kf < b ∨ b + 5 ≤ kf) ∧ (kfb < b ∨ b + 5 ≤ kfb) ∧ kf ≠ kfb) (hlf : lenf ≤ 200) (hBf : ∀ i, Bf i < 64) (fr : Nat) (to : Nat) (hft : fr ≤ to) (hto : to < 2 ^ 30) : Met l yX6_writeOut (WS yX6_writeOut cX6_writeOut 5 none) (rmF 1 21) (PP [.ref (ad b), .ref (ad kf), .int (nI (fr)), .int (nI (to))] D cy ad N g) (QV (fun g1 => g1 b = .inr (6, [.ref (ad (b + 1)), .ref (ad (b + 3)), .ref (ad (b + 4)), .int (nI (pOp (woP (bt8 Bf lenf) fr to ps))), .int (nI (pWt (woP (bt8 Bf lenf) fr to ps))), .int (nI (pLt (woP (bt8 Bf lenf) fr to ps))), .int (nI (pRd (woP (bt8 Bf lenf) fr to ps))), .int (nI (pEm (woP (bt8 Bf lenf) fr to ps))), .int (nI (pOv (woP (bt8 Bf lenf) fr to ps))), .int (nI (ft)), .int (nI (fp))]) ∧ g1 (b + 1) = .inr (0, [.ref (ad (b + 2)), .int (nI (pLen (woP (bt8 Bf lenf) fr to ps)))]) ∧ g1 (b + 2) = .inl (cy 0, 200, .inl (fun x9 => nI ((pB (woP (bt8 Bf lenf) fr to ps)) x9))) ∧ g1 (b + 3) = .inl (cy 1, 4, .inl (fun x9 => nI ((pSt (woP (bt8 Bf lenf) fr to ps)) x9))) ∧ g1 (b + 4) = .inl (cy 1, 4, .inl (fun x9 => nI ((pTm (woP (bt8 Bf lenf) fr to ps)) x9))) ∧ (∀ j, (j < b ∨ b + 5 ≤ j) → g1 j = g j)) D ad N) 0 0 (AA ad N) := by
  refine mentry (by decide) (Nat.le_of_ble_eq_true rfl) (fun p e s m below meth c ls S hr hlk hnm hP hK hl => ?_)
  have S : CallFix p m c cX6_writeOut 5 s _ wsL_law RX6 := S
  have hx := S.1
  have hb := S.2.1
  have hl : lv_has ls 5 [(0, .ref (ad b)), (1, .ref (ad kf)), (2, .int (nI (fr))), (3, .int (nI (to)))] := hl
  have hI : MD (AA ad N) ad N := MD.in hinj
  have hS : va_S (AA ad N) s.heap s.heap [] := va_S.rf
  have hfr : ∀ j : Nat, g j = g j := fun _ => rfl
  have hL := hps.1.1
  have hB := hps.1.2
  have hOp := hps.2.1.1
  have hWt := hps.2.1.2.1
  have hLt := hps.2.1.2.2.1
  have hRd := hps.2.1.2.2.2.1
  have hEm := hps.2.1.2.2.2.2.1
  have hOv := hps.2.1.2.2.2.2.2
  have hff : ∀ i, (bt8 Bf lenf) i < 64 := fun i => bt8_lt hBf
  refine lv_iload_n hx hb dX6_writeOut_0 rfl (lv_at hl 2 rfl) ?_
  refine lv_istore (lv' := [(4, .int (nI (fr))), (0, .ref (ad b)), (1, .ref (ad kf)), (2, .int (nI (fr))), (3, .int (nI (to)))]) hx hb dX6_writeOut_1 hl (by decide) rfl (fun ls hl => ?_)
  have L3 : ∀ (fu : Nat) (c1 : Nat), (fr + c1 ≤ to) → (to - (fr + c1)) < fu → ∀ (g_1 : Nat → va_E) (H : Heap) (locs : List Loc), g_1 b = .inr (6, [.ref (ad (b + 1)), .ref (ad (b + 3)), .ref (ad (b + 4)), .int (nI (pOp ps)), .int (nI (pWt ps)), .int (nI (pLt ps)), .int (nI (pRd ps)), .int (nI (pEm ps)), .int (nI (pOv (wrL (bt8 Bf lenf) fr ps c1))), .int (nI (ft)), .int (nI (fp))]) → g_1 (b + 1) = .inr (0, [.ref (ad (b + 2)), .int (nI (pLen (wrL (bt8 Bf lenf) fr ps c1)))]) → g_1 (b + 2) = .inl (cy 0, 200, .inl (fun x9 => nI ((pB (wrL (bt8 Bf lenf) fr ps c1)) x9))) → (∀ j : Nat, j ≠ b → j ≠ (b + 1) → j ≠ (b + 2) → g_1 j = g j) → MM D ad N g_1 H → va_S (AA ad N) s.heap H locs → ∀ (ls : Array Slot), lv_has ls 5 [(4, .int (nI (fr + c1))), (0, .ref (ad b)), (1, .ref (ad kf)), (2, .int (nI (fr))), (3, .int (nI (to)))] → W p l e (rmF 1 21) s m [.ref (ad b), .ref (ad kf), .int (nI (fr)), .int (nI (to))].toArray below meth c H locs 0 0 (MQ below (QV (fun g1 => g1 b = .inr (6, [.ref (ad (b + 1)), .ref (ad (b + 3)), .ref (ad (b + 4)), .int (nI (pOp (woP (bt8 Bf lenf) fr to ps))), .int (nI (pWt (woP (bt8 Bf lenf) fr to ps))), .int (nI (pLt (woP (bt8 Bf lenf) fr to ps))), .int (nI (pRd (woP (bt8 Bf lenf) fr to ps))), .int (nI (pEm (woP (bt8 Bf lenf) fr to ps))), .int (nI (pOv (woP (bt8 Bf lenf) fr to ps))), .int (nI (ft)), .int (nI (fp))]) ∧ g1 (b + 1) = .inr (0, [.ref (ad (b + 2)), .int (nI (pLen (woP (bt8 Bf lenf) fr to ps)))]) ∧ g1 (b + 2) = .inl (cy 0, 200, .inl (fun x9 => nI ((pB (woP (bt8 Bf lenf) fr to ps)) x9))) ∧ g1 (b + 3) = .inl (cy 1, 4, .inl (fun x9 => nI ((pSt (woP (bt8 Bf lenf) fr to ps)) x9))) ∧ g1 (b + 4) = .inl (cy 1, 4, .inl (fun x9 => nI ((pTm (woP (bt8 Bf lenf) fr to ps)) x9))) ∧ (∀ j, (j < b ∨ b + 5 ≤ j) → g1 j = g j)) D ad N) [.ref (ad b), .ref (ad kf), .int (nI (fr)), .int (nI (to))].toArray s 0 0 (AA ad N)) (F0 m 3 ls []) := by
    intro fu
    induction fu with
    | zero => intro c1 hc hms g_1 H locs hb_1 hb___1_1 hb___2_1 hfr_1 hP hS ls hl; exact absurd hms (Nat.not_lt_zero _)
    | succ fu ih3 =>
      intro c1 hc hms g_1 H locs hb_1 hb___1_1 hb___2_1 hfr_1 hP hS ls hl
      have hb___3_1 : g_1 (b + 3) = .inl (cy 1, 4, .inl (fun x9 => nI ((pSt ps) x9))) := (hfr_1 (b + 3) (by omega) (by omega) (by omega)).trans hgs
      have hb___4_1 : g_1 (b + 4) = .inl (cy 1, 4, .inl (fun x9 => nI ((pTm ps) x9))) := (hfr_1 (b + 4) (by omega) (by omega) (by omega)).trans hgt
      have hkf_1 : g_1 kf = .inr (0, [.ref (ad kfb), .int (nI (lenf))]) := (hfr_1 kf (by omega) (by omega) (by omega)).trans hgf
      have hkfb_1 : g_1 kfb = .inl (cy 0, 200, .inl (fun x9 => nI (Bf x9))) := (hfr_1 kfb (by omega) (by omega) (by omega)).trans hgfb
      have hok := (wrL_ok (fr := fr) hff hps c1)
      have hL1 := hok.1.1.1
      have hB1 := hok.1.1.2
      have hOv1 := hok.1.2.1.2.2.2.2.2
      have hle := hok.2.2
      refine lv_iload hx hb dX6_writeOut_3 (lv_at hl 0 rfl) ?_
      refine lv_iload_n hx hb dX6_writeOut_5 rfl (lv_at hl 4 rfl) ?_
      refine lv_icmp_ge (tgt := 47) hx hb dX6_writeOut_6 (by decide) (fun c_6 => ?_) (fun c_6 => ?_)
      · skip
        have c_6 := (nI_leI (by omega) (by omega)).mp c_6
        refine lv_aload_n hx hb dX6_writeOut_47 rfl (lv_at hl 1 rfl) ?_
        refine lv_iconst (v := nI (0)) hx hb dX6_writeOut_48 (by decide) ?_
        refine mp S hK hP hI hS (by omega) hb_1 fd_X6_66 (nz_01 (by first | exact Or.inl rfl | exact Or.inr rfl)) (fz_01 (by first | exact Or.inl rfl | exact Or.inr rfl)) (Nat.le_of_ble_eq_true rfl) dX6_writeOut_49 (fun g_2 H locs eg_2 hP hS => ?_)
        have hb_2 : g_2 b = .inr (6, [.ref (ad (b + 1)), .ref (ad (b + 3)), .ref (ad (b + 4)), .int (nI (pOp ps)), .int (nI (pWt ps)), .int (nI (pLt ps)), .int (nI (pRd ps)), .int (nI (0)), .int (nI (pOv (wrL (bt8 Bf lenf) fr ps c1))), .int (nI (ft)), .int (nI (fp))]) := by rw [eg_2, va_up_self]; exact rfl
        have hb___1_2 : g_2 (b + 1) = .inr (0, [.ref (ad (b + 2)), .int (nI (pLen (wrL (bt8 Bf lenf) fr ps c1)))]) := ((congrFun eg_2 _).trans (va_up_ne _ _ (by omega))).trans hb___1_1
        have hb___2_2 : g_2 (b + 2) = .inl (cy 0, 200, .inl (fun x9 => nI ((pB (wrL (bt8 Bf lenf) fr ps c1)) x9))) := ((congrFun eg_2 _).trans (va_up_ne _ _ (by omega))).trans hb___2_1
        have hb___3_2 : g_2 (b + 3) = .inl (cy 1, 4, .inl (fun x9 => nI ((pSt ps) x9))) := ((congrFun eg_2 _).trans (va_up_ne _ _ (by omega))).trans hb___3_1
        have hb___4_2 : g_2 (b + 4) = .inl (cy 1, 4, .inl (fun x9 => nI ((pTm ps) x9))) := ((congrFun eg_2 _).trans (va_up_ne _ _ (by omega))).trans hb___4_1
        have hkf_2 : g_2 kf = .inr (0, [.ref (ad kfb), .int (nI (lenf))]) := ((congrFun eg_2 _).trans (va_up_ne _ _ (by omega))).trans hkf_1
        have hkfb_2 : g_2 kfb = .inl (cy 0, 200, .inl (fun x9 => nI (Bf x9))) := ((congrFun eg_2 _).trans (va_up_ne _ _ (by omega))).trans hkfb_1
        have hfr_2 : ∀ j : Nat, j ≠ b → j ≠ (b + 1) → j ≠ (b + 2) → g_2 j = g j := fun j n0 n1 n2 => ((congrFun eg_2 _).trans (va_up_ne _ _ n0)).trans (hfr_1 j n0 n1 n2)
        have hEnd : wrL (bt8 Bf lenf) fr ps (to - fr) = wrL (bt8 Bf lenf) fr ps c1 := by first | (rw [show to - fr = c1 by omega]; done) | (have q := wrL_end c_13 (to - fr - c1); rw [show c1 + (to - fr - c1) = to - fr by omega] at q; exact q)
        exact rMv S hr hlk hP hS ⟨(by first | exact hb_2 | (unfold woP; rw [hEnd]; exact hb_2)), (by first | exact hb___1_2 | (unfold woP; rw [hEnd]; exact hb___1_2)), (by first | exact hb___2_2 | (unfold woP; rw [hEnd]; exact hb___2_2)), (by first | exact hb___3_2 | (unfold woP; rw [hEnd]; exact hb___3_2)), (by first | exact hb___4_2 | (unfold woP; rw [hEnd]; exact hb___4_2)), (fun j n0 => hfr_2 j (by omega) (by omega) (by omega))⟩ dX6_writeOut_52
      · skip
        have c_6 := (not_congr (nI_leI (by omega) (by omega))).mp c_6
        refine lv_aload_n hx hb dX6_writeOut_9 rfl (lv_at hl 1 rfl) ?_
        refine mg S hK hP (by omega) hb_1 fd_X6_53 rfl dX6_writeOut_10 ?_
        refine lv_if_ne (tgt := 47) hx hb dX6_writeOut_13 (by decide) (fun c_13 => ?_) (fun c_13 => ?_)
        · skip
          have c_13 := (not_congr (z_eq (by omega))).mp c_13
          refine lv_aload_n hx hb dX6_writeOut_47 rfl (lv_at hl 1 rfl) ?_
          refine lv_iconst (v := nI (0)) hx hb dX6_writeOut_48 (by decide) ?_
          refine mp S hK hP hI hS (by omega) hb_1 fd_X6_66 (nz_01 (by first | exact Or.inl rfl | exact Or.inr rfl)) (fz_01 (by first | exact Or.inl rfl | exact Or.inr rfl)) (Nat.le_of_ble_eq_true rfl) dX6_writeOut_49 (fun g_3 H locs eg_3 hP hS => ?_)
          have hb_3 : g_3 b = .inr (6, [.ref (ad (b + 1)), .ref (ad (b + 3)), .ref (ad (b + 4)), .int (nI (pOp ps)), .int (nI (pWt ps)), .int (nI (pLt ps)), .int (nI (pRd ps)), .int (nI (0)), .int (nI (pOv (wrL (bt8 Bf lenf) fr ps c1))), .int (nI (ft)), .int (nI (fp))]) := by rw [eg_3, va_up_self]; exact rfl
          have hb___1_3 : g_3 (b + 1) = .inr (0, [.ref (ad (b + 2)), .int (nI (pLen (wrL (bt8 Bf lenf) fr ps c1)))]) := ((congrFun eg_3 _).trans (va_up_ne _ _ (by omega))).trans hb___1_1
          have hb___2_3 : g_3 (b + 2) = .inl (cy 0, 200, .inl (fun x9 => nI ((pB (wrL (bt8 Bf lenf) fr ps c1)) x9))) := ((congrFun eg_3 _).trans (va_up_ne _ _ (by omega))).trans hb___2_1
          have hb___3_3 : g_3 (b + 3) = .inl (cy 1, 4, .inl (fun x9 => nI ((pSt ps) x9))) := ((congrFun eg_3 _).trans (va_up_ne _ _ (by omega))).trans hb___3_1
          have hb___4_3 : g_3 (b + 4) = .inl (cy 1, 4, .inl (fun x9 => nI ((pTm ps) x9))) := ((congrFun eg_3 _).trans (va_up_ne _ _ (by omega))).trans hb___4_1
          have hkf_3 : g_3 kf = .inr (0, [.ref (ad kfb), .int (nI (lenf))]) := ((congrFun eg_3 _).trans (va_up_ne _ _ (by omega))).trans hkf_1
          have hkfb_3 : g_3 kfb = .inl (cy 0, 200, .inl (fun x9 => nI (Bf x9))) := ((congrFun eg_3 _).trans (va_up_ne _ _ (by omega))).trans hkfb_1
          have hfr_3 : ∀ j : Nat, j ≠ b → j ≠ (b + 1) → j ≠ (b + 2) → g_3 j = g j := fun j n0 n1 n2 => ((congrFun eg_3 _).trans (va_up_ne _ _ n0)).trans (hfr_1 j n0 n1 n2)
          have hEnd : wrL (bt8 Bf lenf) fr ps (to - fr) = wrL (bt8 Bf lenf) fr ps c1 := by first | (rw [show to - fr = c1 by omega]; done) | (have q := wrL_end c_13 (to - fr - c1); rw [show c1 + (to - fr - c1) = to - fr by omega] at q; exact q)
          exact rMv S hr hlk hP hS ⟨(by first | exact hb_3 | (unfold woP; rw [hEnd]; exact hb_3)), (by first | exact hb___1_3 | (unfold woP; rw [hEnd]; exact hb___1_3)), (by first | exact hb___2_3 | (unfold woP; rw [hEnd]; exact hb___2_3)), (by first | exact hb___3_3 | (unfold woP; rw [hEnd]; exact hb___3_3)), (by first | exact hb___4_3 | (unfold woP; rw [hEnd]; exact hb___4_3)), (fun j n0 => hfr_3 j (by omega) (by omega) (by omega))⟩ dX6_writeOut_52
        · skip
          have c_13 := (z_eq (by omega)).mp c_13
          refine lv_aload_n hx hb dX6_writeOut_16 rfl (lv_at hl 1 rfl) ?_
          refine lv_aload_n hx hb dX6_writeOut_17 rfl (lv_at hl 1 rfl) ?_
          refine mg S hK hP (by omega) hb_1 fd_X6_12 rfl dX6_writeOut_18 ?_
          refine lv_aload_n hx hb dX6_writeOut_21 rfl (lv_at hl 2 rfl) ?_
          refine lv_iload hx hb dX6_writeOut_22 (lv_at hl 0 rfl) ?_
          refine kVi (As := [.int (nI (fr + c1))]) (rest := [.ref (ad (b + 1)), .ref (ad b)]) S hK hP (c_X0_beatAt l D cy ad N g_1 kf hkf kfb hkfb lenf Bf hkf_1 hkfb_1 (by omega) hlf hBf (fr + c1) (by omega)) cv_X6_106 hkf hkf_1 ⟨_, _, rfl⟩ ⟨rfl, rfl⟩ rfl hl.1 rfl (Nat.le_of_ble_eq_true rfl) ⟨Nat.zero_le _, Nat.zero_le _⟩ dX6_writeOut_24 (fun r_24 q_24 => ?_)
          subst q_24
          refine kMi (As := [.int (nI (bt8 Bf lenf (fr + c1)))]) (rest := [.ref (ad b)]) S hK hP hS (fun _ h => h) (c_X0_append l D cy ad N g_1 hinj (b + 1) (by omega) (b + 2) (by omega) (pLen (wrL (bt8 Bf lenf) fr ps c1)) (pB (wrL (bt8 Bf lenf) fr ps c1)) hb___1_1 hb___2_1 (by omega) hL1 hB1 (bt8 Bf lenf (fr + c1)) (by have := hff (fr + c1); omega)) cv_X6_110 (by omega) hb___1_1 ⟨_, _, rfl⟩ ⟨rfl, rfl⟩ rfl hl.1 rfl (Nat.le_of_ble_eq_true rfl) ⟨Nat.zero_le _, Nat.zero_le _⟩ dX6_writeOut_27 (fun r_27 g_4 H locs q_4 hP hS => ?_)
          obtain ⟨q_27, h_b___1__4, h_b___2__4, f_4⟩ := q_4
          subst q_27
          have hb_4 : g_4 b = .inr (6, [.ref (ad (b + 1)), .ref (ad (b + 3)), .ref (ad (b + 4)), .int (nI (pOp ps)), .int (nI (pWt ps)), .int (nI (pLt ps)), .int (nI (pRd ps)), .int (nI (pEm ps)), .int (nI (pOv (wrL (bt8 Bf lenf) fr ps c1))), .int (nI (ft)), .int (nI (fp))]) := (f_4 b (by omega) (by omega)).trans hb_1
          have hb___3_4 : g_4 (b + 3) = .inl (cy 1, 4, .inl (fun x9 => nI ((pSt ps) x9))) := (f_4 (b + 3) (by omega) (by omega)).trans hb___3_1
          have hb___4_4 : g_4 (b + 4) = .inl (cy 1, 4, .inl (fun x9 => nI ((pTm ps) x9))) := (f_4 (b + 4) (by omega) (by omega)).trans hb___4_1
          have hkf_4 : g_4 kf = .inr (0, [.ref (ad kfb), .int (nI (lenf))]) := (f_4 kf (by omega) (by omega)).trans hkf_1
          have hkfb_4 : g_4 kfb = .inl (cy 0, 200, .inl (fun x9 => nI (Bf x9))) := (f_4 kfb (by omega) (by omega)).trans hkfb_1
          have hfr_4 : ∀ j : Nat, j ≠ b → j ≠ (b + 1) → j ≠ (b + 2) → g_4 j = g j := fun j n0 n1 n2 => (f_4 j n1 n2).trans (hfr_1 j n0 n1 n2)
          refine lv_if_ne (tgt := 37) hx hb dX6_writeOut_30 (by decide) (fun c_30 => ?_) (fun c_30 => ?_)
          · skip
            have c_30 := bz_ne.mp c_30
            have hwr := wrL_s1 c_13 c_30
            refine lv_iconst (v := nI (0)) hx hb dX6_writeOut_37 (by decide) ?_
            refine mp S hK hP hI hS (by omega) hb_4 fd_X6_53 (nz_01 (by first | exact Or.inl rfl | exact Or.inr rfl)) (fz_01 (by first | exact Or.inl rfl | exact Or.inr rfl)) (Nat.le_of_ble_eq_true rfl) dX6_writeOut_38 (fun g_5 H locs eg_5 hP hS => ?_)
            have hb_5 : g_5 b = .inr (6, [.ref (ad (b + 1)), .ref (ad (b + 3)), .ref (ad (b + 4)), .int (nI (pOp ps)), .int (nI (pWt ps)), .int (nI (pLt ps)), .int (nI (pRd ps)), .int (nI (pEm ps)), .int (nI (0)), .int (nI (ft)), .int (nI (fp))]) := by rw [eg_5, va_up_self]; exact rfl
            have hb___1_5 : g_5 (b + 1) = .inr (0, [.ref (ad (b + 2)), .int (nI (apL (pLen (wrL (bt8 Bf lenf) fr ps c1))))]) := ((congrFun eg_5 _).trans (va_up_ne _ _ (by omega))).trans h_b___1__4
            have hb___2_5 : g_5 (b + 2) = .inl (cy 0, 200, .inl (fun x9 => nI ((apB (pB (wrL (bt8 Bf lenf) fr ps c1)) (pLen (wrL (bt8 Bf lenf) fr ps c1)) (bt8 Bf lenf (fr + c1))) x9))) := ((congrFun eg_5 _).trans (va_up_ne _ _ (by omega))).trans h_b___2__4
            have hb___3_5 : g_5 (b + 3) = .inl (cy 1, 4, .inl (fun x9 => nI ((pSt ps) x9))) := ((congrFun eg_5 _).trans (va_up_ne _ _ (by omega))).trans hb___3_4
            have hb___4_5 : g_5 (b + 4) = .inl (cy 1, 4, .inl (fun x9 => nI ((pTm ps) x9))) := ((congrFun eg_5 _).trans (va_up_ne _ _ (by omega))).trans hb___4_4
            have hkf_5 : g_5 kf = .inr (0, [.ref (ad kfb), .int (nI (lenf))]) := ((congrFun eg_5 _).trans (va_up_ne _ _ (by omega))).trans hkf_4
            have hkfb_5 : g_5 kfb = .inl (cy 0, 200, .inl (fun x9 => nI (Bf x9))) := ((congrFun eg_5 _).trans (va_up_ne _ _ (by omega))).trans hkfb_4
            have hfr_5 : ∀ j : Nat, j ≠ b → j ≠ (b + 1) → j ≠ (b + 2) → g_5 j = g j := fun j n0 n1 n2 => ((congrFun eg_5 _).trans (va_up_ne _ _ n0)).trans (hfr_4 j n0 n1 n2)
            refine lv_iinc (v := nI ((fr + c1) + 1)) (lv' := [(4, .int (nI ((fr + c1) + 1))), (0, .ref (ad b)), (1, .ref (ad kf)), (2, .int (nI (fr))), (3, .int (nI (to)))]) hx hb dX6_writeOut_41 hl (k := 0) rfl (by exact nI_add (fr + c1) 1) (by decide) rfl (fun ls hl => ?_)
            refine lv_goto (tgt := 3) hx hb dX6_writeOut_44 (by decide) ?_
            exact ih3 (c1 + 1) (by omega) (by omega) g_5 _ _ (by rw [hwr]; exact hb_5) (by rw [hwr]; exact hb___1_5) (by rw [hwr]; exact hb___2_5) hfr_5 hP hS _ (lv_sub hl [0, 1, 2, 3, 4] rfl)
          · skip
            have c_30 := bz_eq.mp c_30
            have hwr := wrL_s2 c_13 c_30
            refine lv_iconst (v := nI (1)) hx hb dX6_writeOut_33 (by decide) ?_
            refine lv_goto (tgt := 38) hx hb dX6_writeOut_34 (by decide) ?_
            refine mp S hK hP hI hS (by omega) hb_4 fd_X6_53 (nz_01 (by first | exact Or.inl rfl | exact Or.inr rfl)) (fz_01 (by first | exact Or.inl rfl | exact Or.inr rfl)) (Nat.le_of_ble_eq_true rfl) dX6_writeOut_38 (fun g_6 H locs eg_6 hP hS => ?_)
            have hb_6 : g_6 b = .inr (6, [.ref (ad (b + 1)), .ref (ad (b + 3)), .ref (ad (b + 4)), .int (nI (pOp ps)), .int (nI (pWt ps)), .int (nI (pLt ps)), .int (nI (pRd ps)), .int (nI (pEm ps)), .int (nI (1)), .int (nI (ft)), .int (nI (fp))]) := by rw [eg_6, va_up_self]; exact rfl
            have hb___1_6 : g_6 (b + 1) = .inr (0, [.ref (ad (b + 2)), .int (nI (apL (pLen (wrL (bt8 Bf lenf) fr ps c1))))]) := ((congrFun eg_6 _).trans (va_up_ne _ _ (by omega))).trans h_b___1__4
            have hb___2_6 : g_6 (b + 2) = .inl (cy 0, 200, .inl (fun x9 => nI ((apB (pB (wrL (bt8 Bf lenf) fr ps c1)) (pLen (wrL (bt8 Bf lenf) fr ps c1)) (bt8 Bf lenf (fr + c1))) x9))) := ((congrFun eg_6 _).trans (va_up_ne _ _ (by omega))).trans h_b___2__4
            have hb___3_6 : g_6 (b + 3) = .inl (cy 1, 4, .inl (fun x9 => nI ((pSt ps) x9))) := ((congrFun eg_6 _).trans (va_up_ne _ _ (by omega))).trans hb___3_4
            have hb___4_6 : g_6 (b + 4) = .inl (cy 1, 4, .inl (fun x9 => nI ((pTm ps) x9))) := ((congrFun eg_6 _).trans (va_up_ne _ _ (by omega))).trans hb___4_4
            have hkf_6 : g_6 kf = .inr (0, [.ref (ad kfb), .int (nI (lenf))]) := ((congrFun eg_6 _).trans (va_up_ne _ _ (by omega))).trans hkf_4
            have hkfb_6 : g_6 kfb = .inl (cy 0, 200, .inl (fun x9 => nI (Bf x9))) := ((congrFun eg_6 _).trans (va_up_ne _ _ (by omega))).trans hkfb_4
            have hfr_6 : ∀ j : Nat, j ≠ b → j ≠ (b + 1) → j ≠ (b + 2) → g_6 j = g j := fun j n0 n1 n2 => ((congrFun eg_6 _).trans (va_up_ne _ _ n0)).trans (hfr_4 j n0 n1 n2)
            refine lv_iinc (v := nI ((fr + c1) + 1)) (lv' := [(4, .int (nI ((fr + c1) + 1))), (0, .ref (ad b)), (1, .ref (ad kf)), (2, .int (nI (fr))), (3, .int (nI (to)))]) hx hb dX6_writeOut_41 hl (k := 0) rfl (by exact nI_add (fr + c1) 1) (by decide) rfl (fun ls hl => ?_)
            refine lv_goto (tgt := 3) hx hb dX6_writeOut_44 (by decide) ?_
            exact ih3 (c1 + 1) (by omega) (by omega) g_6 _ _ (by rw [hwr]; exact hb_6) (by rw [hwr]; exact hb___1_6) (by rw [hwr]; exact hb___2_6) hfr_6 hP hS _ (lv_sub hl [0, 1, 2, 3, 4] rfl)
  exact L3 ((to - (fr + 0)) + 1) 0 (by omega) (Nat.lt_succ_self _) g _ _ hg hgd hgb (fun j n0 n1 n2 => hfr j ) hP hS _ (lv_sub hl [0, 1, 2, 3, 4] rfl)
set_option maxHeartbeats 4000000 in
set_option maxRecDepth 100000 in
theorem c_X6_writeOutD (l : Launch) (D : va_G) (cy : Nat → ClassId) (ad : Nat → Nat) (N : Nat) (g : Nat → va_E) (hinj : ∀ i j : Nat, i < N → j < N → ad i = ad j → i = j) (b : Nat) (hbN : b + 5 ≤ N) (ps : PS) (ft : Nat) (fp : Nat) (hg : g b = .inr (6, [.ref (ad (b + 1)), .ref (ad (b + 3)), .ref (ad (b + 4)), .int (nI (pOp ps)), .int (nI (pWt ps)), .int (nI (pLt ps)), .int (nI (pRd ps)), .int (nI (pEm ps)), .int (nI (pOv ps)), .int (nI (ft)), .int (nI (fp))])) (hgd : g (b + 1) = .inr (0, [.ref (ad (b + 2)), .int (nI (pLen ps))])) (hgb : g (b + 2) = .inl (cy 0, 200, .inl (fun x9 => nI ((pB ps) x9)))) (hgs : g (b + 3) = .inl (cy 1, 4, .inl (fun x9 => nI ((pSt ps) x9)))) (hgt : g (b + 4) = .inl (cy 1, 4, .inl (fun x9 => nI ((pTm ps) x9)))) (hps : POK ps) (fr : Nat) (to : Nat) (hft : fr ≤ to) (hto : to ≤ pLen ps) : Met l yX6_writeOut (WS yX6_writeOut cX6_writeOut 5 none) (rmF 1 21) (PP [.ref (ad b), .ref (ad (b + 1)), .int (nI (fr)), .int (nI (to))] D cy ad N g) (QV (fun g1 => g1 b = .inr (6, [.ref (ad (b + 1)), .ref (ad (b + 3)), .ref (ad (b + 4)), .int (nI (pOp (woP (pB ps) fr to ps))), .int (nI (pWt (woP (pB ps) fr to ps))), .int (nI (pLt (woP (pB ps) fr to ps))), .int (nI (pRd (woP (pB ps) fr to ps))), .int (nI (pEm (woP (pB ps) fr to ps))), .int (nI (pOv (woP (pB ps) fr to ps))), .int (nI (ft)), .int (nI (fp))]) ∧ g1 (b + 1) = .inr (0, [.ref (ad (b + 2)), .int (nI (pLen (woP (pB ps) fr to ps)))]) ∧ g1 (b + 2) = .inl (cy 0, 200, .inl (fun x9 => nI ((pB (woP (pB ps) fr to ps)) x9))) ∧ g1 (b + 3) = .inl (cy 1, 4, .inl (fun x9 => nI ((pSt (woP (pB ps) fr to ps)) x9))) ∧ g1 (b + 4) = .inl (cy 1, 4, .inl (fun x9 => nI ((pTm (woP (pB ps) fr to ps)) x9))) ∧ (∀ j, (j < b ∨ b + 5 ≤ j) → g1 j = g j)) D ad N) 0 0 (AA ad N) := by
  refine mentry (by decide) (Nat.le_of_ble_eq_true rfl) (fun p e s m below meth c ls S hr hlk hnm hP hK hl => ?_)
  have S : CallFix p m c cX6_writeOut 5 s _ wsL_law RX6 := S
  have hx := S.1
  have hb := S.2.1
  have hl : lv_has ls 5 [(0, .ref (ad b)), (1, .ref (ad (b + 1))), (2, .int (nI (fr))), (3, .int (nI (to)))] := hl
  have hI : MD (AA ad N) ad N := MD.in hinj
  have hS : va_S (AA ad N) s.heap s.heap [] := va_S.rf
  have hfr : ∀ j : Nat, g j = g j := fun _ => rfl
  have hL := hps.1.1
  have hB := hps.1.2
  have hOp := hps.2.1.1
  have hWt := hps.2.1.2.1
  have hLt := hps.2.1.2.2.1
  have hRd := hps.2.1.2.2.2.1
  have hEm := hps.2.1.2.2.2.2.1
  have hOv := hps.2.1.2.2.2.2.2
  have hff : ∀ i, (pB ps) i < 64 := hB
  refine lv_iload_n hx hb dX6_writeOut_0 rfl (lv_at hl 2 rfl) ?_
  refine lv_istore (lv' := [(4, .int (nI (fr))), (0, .ref (ad b)), (1, .ref (ad (b + 1))), (2, .int (nI (fr))), (3, .int (nI (to)))]) hx hb dX6_writeOut_1 hl (by decide) rfl (fun ls hl => ?_)
  have L3 : ∀ (fu : Nat) (c1 : Nat), (fr + c1 ≤ to) → (to - (fr + c1)) < fu → ∀ (g_1 : Nat → va_E) (H : Heap) (locs : List Loc), g_1 b = .inr (6, [.ref (ad (b + 1)), .ref (ad (b + 3)), .ref (ad (b + 4)), .int (nI (pOp ps)), .int (nI (pWt ps)), .int (nI (pLt ps)), .int (nI (pRd ps)), .int (nI (pEm ps)), .int (nI (pOv (wrL (pB ps) fr ps c1))), .int (nI (ft)), .int (nI (fp))]) → g_1 (b + 1) = .inr (0, [.ref (ad (b + 2)), .int (nI (pLen (wrL (pB ps) fr ps c1)))]) → g_1 (b + 2) = .inl (cy 0, 200, .inl (fun x9 => nI ((pB (wrL (pB ps) fr ps c1)) x9))) → (∀ j : Nat, j ≠ b → j ≠ (b + 1) → j ≠ (b + 2) → g_1 j = g j) → MM D ad N g_1 H → va_S (AA ad N) s.heap H locs → ∀ (ls : Array Slot), lv_has ls 5 [(4, .int (nI (fr + c1))), (0, .ref (ad b)), (1, .ref (ad (b + 1))), (2, .int (nI (fr))), (3, .int (nI (to)))] → W p l e (rmF 1 21) s m [.ref (ad b), .ref (ad (b + 1)), .int (nI (fr)), .int (nI (to))].toArray below meth c H locs 0 0 (MQ below (QV (fun g1 => g1 b = .inr (6, [.ref (ad (b + 1)), .ref (ad (b + 3)), .ref (ad (b + 4)), .int (nI (pOp (woP (pB ps) fr to ps))), .int (nI (pWt (woP (pB ps) fr to ps))), .int (nI (pLt (woP (pB ps) fr to ps))), .int (nI (pRd (woP (pB ps) fr to ps))), .int (nI (pEm (woP (pB ps) fr to ps))), .int (nI (pOv (woP (pB ps) fr to ps))), .int (nI (ft)), .int (nI (fp))]) ∧ g1 (b + 1) = .inr (0, [.ref (ad (b + 2)), .int (nI (pLen (woP (pB ps) fr to ps)))]) ∧ g1 (b + 2) = .inl (cy 0, 200, .inl (fun x9 => nI ((pB (woP (pB ps) fr to ps)) x9))) ∧ g1 (b + 3) = .inl (cy 1, 4, .inl (fun x9 => nI ((pSt (woP (pB ps) fr to ps)) x9))) ∧ g1 (b + 4) = .inl (cy 1, 4, .inl (fun x9 => nI ((pTm (woP (pB ps) fr to ps)) x9))) ∧ (∀ j, (j < b ∨ b + 5 ≤ j) → g1 j = g j)) D ad N) [.ref (ad b), .ref (ad (b + 1)), .int (nI (fr)), .int (nI (to))].toArray s 0 0 (AA ad N)) (F0 m 3 ls []) := by
    intro fu
    induction fu with
    | zero => intro c1 hc hms g_1 H locs hb_1 hb___1_1 hb___2_1 hfr_1 hP hS ls hl; exact absurd hms (Nat.not_lt_zero _)
    | succ fu ih3 =>
      intro c1 hc hms g_1 H locs hb_1 hb___1_1 hb___2_1 hfr_1 hP hS ls hl
      have hb___3_1 : g_1 (b + 3) = .inl (cy 1, 4, .inl (fun x9 => nI ((pSt ps) x9))) := (hfr_1 (b + 3) (by omega) (by omega) (by omega)).trans hgs
      have hb___4_1 : g_1 (b + 4) = .inl (cy 1, 4, .inl (fun x9 => nI ((pTm ps) x9))) := (hfr_1 (b + 4) (by omega) (by omega) (by omega)).trans hgt
      have hok := (wrL_ok (fr := fr) hff hps c1)
      have hL1 := hok.1.1.1
      have hB1 := hok.1.1.2
      have hOv1 := hok.1.2.1.2.2.2.2.2
      have hle := hok.2.2
      refine lv_iload hx hb dX6_writeOut_3 (lv_at hl 0 rfl) ?_
      refine lv_iload_n hx hb dX6_writeOut_5 rfl (lv_at hl 4 rfl) ?_
      refine lv_icmp_ge (tgt := 47) hx hb dX6_writeOut_6 (by decide) (fun c_6 => ?_) (fun c_6 => ?_)
      · skip
        have c_6 := (nI_leI (by omega) (by omega)).mp c_6
        refine lv_aload_n hx hb dX6_writeOut_47 rfl (lv_at hl 1 rfl) ?_
        refine lv_iconst (v := nI (0)) hx hb dX6_writeOut_48 (by decide) ?_
        refine mp S hK hP hI hS (by omega) hb_1 fd_X6_66 (nz_01 (by first | exact Or.inl rfl | exact Or.inr rfl)) (fz_01 (by first | exact Or.inl rfl | exact Or.inr rfl)) (Nat.le_of_ble_eq_true rfl) dX6_writeOut_49 (fun g_2 H locs eg_2 hP hS => ?_)
        have hb_2 : g_2 b = .inr (6, [.ref (ad (b + 1)), .ref (ad (b + 3)), .ref (ad (b + 4)), .int (nI (pOp ps)), .int (nI (pWt ps)), .int (nI (pLt ps)), .int (nI (pRd ps)), .int (nI (0)), .int (nI (pOv (wrL (pB ps) fr ps c1))), .int (nI (ft)), .int (nI (fp))]) := by rw [eg_2, va_up_self]; exact rfl
        have hb___1_2 : g_2 (b + 1) = .inr (0, [.ref (ad (b + 2)), .int (nI (pLen (wrL (pB ps) fr ps c1)))]) := ((congrFun eg_2 _).trans (va_up_ne _ _ (by omega))).trans hb___1_1
        have hb___2_2 : g_2 (b + 2) = .inl (cy 0, 200, .inl (fun x9 => nI ((pB (wrL (pB ps) fr ps c1)) x9))) := ((congrFun eg_2 _).trans (va_up_ne _ _ (by omega))).trans hb___2_1
        have hb___3_2 : g_2 (b + 3) = .inl (cy 1, 4, .inl (fun x9 => nI ((pSt ps) x9))) := ((congrFun eg_2 _).trans (va_up_ne _ _ (by omega))).trans hb___3_1
        have hb___4_2 : g_2 (b + 4) = .inl (cy 1, 4, .inl (fun x9 => nI ((pTm ps) x9))) := ((congrFun eg_2 _).trans (va_up_ne _ _ (by omega))).trans hb___4_1
        have hfr_2 : ∀ j : Nat, j ≠ b → j ≠ (b + 1) → j ≠ (b + 2) → g_2 j = g j := fun j n0 n1 n2 => ((congrFun eg_2 _).trans (va_up_ne _ _ n0)).trans (hfr_1 j n0 n1 n2)
        have hEnd : wrL (pB ps) fr ps (to - fr) = wrL (pB ps) fr ps c1 := by first | (rw [show to - fr = c1 by omega]; done) | (have q := wrL_end c_13 (to - fr - c1); rw [show c1 + (to - fr - c1) = to - fr by omega] at q; exact q)
        exact rMv S hr hlk hP hS ⟨(by first | exact hb_2 | (unfold woP; rw [hEnd]; exact hb_2)), (by first | exact hb___1_2 | (unfold woP; rw [hEnd]; exact hb___1_2)), (by first | exact hb___2_2 | (unfold woP; rw [hEnd]; exact hb___2_2)), (by first | exact hb___3_2 | (unfold woP; rw [hEnd]; exact hb___3_2)), (by first | exact hb___4_2 | (unfold woP; rw [hEnd]; exact hb___4_2)), (fun j n0 => hfr_2 j (by omega) (by omega) (by omega))⟩ dX6_writeOut_52
      · skip
        have c_6 := (not_congr (nI_leI (by omega) (by omega))).mp c_6
        refine lv_aload_n hx hb dX6_writeOut_9 rfl (lv_at hl 1 rfl) ?_
        refine mg S hK hP (by omega) hb_1 fd_X6_53 rfl dX6_writeOut_10 ?_
        refine lv_if_ne (tgt := 47) hx hb dX6_writeOut_13 (by decide) (fun c_13 => ?_) (fun c_13 => ?_)
        · skip
          have c_13 := (not_congr (z_eq (by omega))).mp c_13
          refine lv_aload_n hx hb dX6_writeOut_47 rfl (lv_at hl 1 rfl) ?_
          refine lv_iconst (v := nI (0)) hx hb dX6_writeOut_48 (by decide) ?_
          refine mp S hK hP hI hS (by omega) hb_1 fd_X6_66 (nz_01 (by first | exact Or.inl rfl | exact Or.inr rfl)) (fz_01 (by first | exact Or.inl rfl | exact Or.inr rfl)) (Nat.le_of_ble_eq_true rfl) dX6_writeOut_49 (fun g_3 H locs eg_3 hP hS => ?_)
          have hb_3 : g_3 b = .inr (6, [.ref (ad (b + 1)), .ref (ad (b + 3)), .ref (ad (b + 4)), .int (nI (pOp ps)), .int (nI (pWt ps)), .int (nI (pLt ps)), .int (nI (pRd ps)), .int (nI (0)), .int (nI (pOv (wrL (pB ps) fr ps c1))), .int (nI (ft)), .int (nI (fp))]) := by rw [eg_3, va_up_self]; exact rfl
          have hb___1_3 : g_3 (b + 1) = .inr (0, [.ref (ad (b + 2)), .int (nI (pLen (wrL (pB ps) fr ps c1)))]) := ((congrFun eg_3 _).trans (va_up_ne _ _ (by omega))).trans hb___1_1
          have hb___2_3 : g_3 (b + 2) = .inl (cy 0, 200, .inl (fun x9 => nI ((pB (wrL (pB ps) fr ps c1)) x9))) := ((congrFun eg_3 _).trans (va_up_ne _ _ (by omega))).trans hb___2_1
          have hb___3_3 : g_3 (b + 3) = .inl (cy 1, 4, .inl (fun x9 => nI ((pSt ps) x9))) := ((congrFun eg_3 _).trans (va_up_ne _ _ (by omega))).trans hb___3_1
          have hb___4_3 : g_3 (b + 4) = .inl (cy 1, 4, .inl (fun x9 => nI ((pTm ps) x9))) := ((congrFun eg_3 _).trans (va_up_ne _ _ (by omega))).trans hb___4_1
          have hfr_3 : ∀ j : Nat, j ≠ b → j ≠ (b + 1) → j ≠ (b + 2) → g_3 j = g j := fun j n0 n1 n2 => ((congrFun eg_3 _).trans (va_up_ne _ _ n0)).trans (hfr_1 j n0 n1 n2)
          have hEnd : wrL (pB ps) fr ps (to - fr) = wrL (pB ps) fr ps c1 := by first | (rw [show to - fr = c1 by omega]; done) | (have q := wrL_end c_13 (to - fr - c1); rw [show c1 + (to - fr - c1) = to - fr by omega] at q; exact q)
          exact rMv S hr hlk hP hS ⟨(by first | exact hb_3 | (unfold woP; rw [hEnd]; exact hb_3)), (by first | exact hb___1_3 | (unfold woP; rw [hEnd]; exact hb___1_3)), (by first | exact hb___2_3 | (unfold woP; rw [hEnd]; exact hb___2_3)), (by first | exact hb___3_3 | (unfold woP; rw [hEnd]; exact hb___3_3)), (by first | exact hb___4_3 | (unfold woP; rw [hEnd]; exact hb___4_3)), (fun j n0 => hfr_3 j (by omega) (by omega) (by omega))⟩ dX6_writeOut_52
        · skip
          have c_13 := (z_eq (by omega)).mp c_13
          refine lv_aload_n hx hb dX6_writeOut_16 rfl (lv_at hl 1 rfl) ?_
          refine lv_aload_n hx hb dX6_writeOut_17 rfl (lv_at hl 1 rfl) ?_
          refine mg S hK hP (by omega) hb_1 fd_X6_12 rfl dX6_writeOut_18 ?_
          refine lv_aload_n hx hb dX6_writeOut_21 rfl (lv_at hl 2 rfl) ?_
          refine lv_iload hx hb dX6_writeOut_22 (lv_at hl 0 rfl) ?_
          refine kVi (As := [.int (nI (fr + c1))]) (rest := [.ref (ad (b + 1)), .ref (ad b)]) S hK hP (c_X0_beatAt l D cy ad N g_1 (b + 1) (by omega) (b + 2) (by omega) (pLen (wrL (pB ps) fr ps c1)) (pB (wrL (pB ps) fr ps c1)) hb___1_1 hb___2_1 (by omega) hL1 hB1 (fr + c1) (by omega)) cv_X6_106 (by omega) hb___1_1 ⟨_, _, rfl⟩ ⟨rfl, rfl⟩ rfl hl.1 rfl (Nat.le_of_ble_eq_true rfl) ⟨Nat.zero_le _, Nat.zero_le _⟩ dX6_writeOut_24 (fun r_24 q_24 => ?_)
          subst q_24
          refine tpi (by rw [bt8_in (by omega), (wrL_B (f := (pB ps)) (fr := fr) hL c1 (fr + c1) (by omega)).1]) ?_
          refine kMi (As := [.int (nI (pB ps (fr + c1)))]) (rest := [.ref (ad b)]) S hK hP hS (fun _ h => h) (c_X0_append l D cy ad N g_1 hinj (b + 1) (by omega) (b + 2) (by omega) (pLen (wrL (pB ps) fr ps c1)) (pB (wrL (pB ps) fr ps c1)) hb___1_1 hb___2_1 (by omega) hL1 hB1 (pB ps (fr + c1)) (by have := hff (fr + c1); omega)) cv_X6_110 (by omega) hb___1_1 ⟨_, _, rfl⟩ ⟨rfl, rfl⟩ rfl hl.1 rfl (Nat.le_of_ble_eq_true rfl) ⟨Nat.zero_le _, Nat.zero_le _⟩ dX6_writeOut_27 (fun r_27 g_4 H locs q_4 hP hS => ?_)
          obtain ⟨q_27, h_b___1__4, h_b___2__4, f_4⟩ := q_4
          subst q_27
          have hb_4 : g_4 b = .inr (6, [.ref (ad (b + 1)), .ref (ad (b + 3)), .ref (ad (b + 4)), .int (nI (pOp ps)), .int (nI (pWt ps)), .int (nI (pLt ps)), .int (nI (pRd ps)), .int (nI (pEm ps)), .int (nI (pOv (wrL (pB ps) fr ps c1))), .int (nI (ft)), .int (nI (fp))]) := (f_4 b (by omega) (by omega)).trans hb_1
          have hb___3_4 : g_4 (b + 3) = .inl (cy 1, 4, .inl (fun x9 => nI ((pSt ps) x9))) := (f_4 (b + 3) (by omega) (by omega)).trans hb___3_1
          have hb___4_4 : g_4 (b + 4) = .inl (cy 1, 4, .inl (fun x9 => nI ((pTm ps) x9))) := (f_4 (b + 4) (by omega) (by omega)).trans hb___4_1
          have hfr_4 : ∀ j : Nat, j ≠ b → j ≠ (b + 1) → j ≠ (b + 2) → g_4 j = g j := fun j n0 n1 n2 => (f_4 j n1 n2).trans (hfr_1 j n0 n1 n2)
          refine lv_if_ne (tgt := 37) hx hb dX6_writeOut_30 (by decide) (fun c_30 => ?_) (fun c_30 => ?_)
          · skip
            have c_30 := bz_ne.mp c_30
            have hwr := wrL_s1 c_13 c_30
            refine lv_iconst (v := nI (0)) hx hb dX6_writeOut_37 (by decide) ?_
            refine mp S hK hP hI hS (by omega) hb_4 fd_X6_53 (nz_01 (by first | exact Or.inl rfl | exact Or.inr rfl)) (fz_01 (by first | exact Or.inl rfl | exact Or.inr rfl)) (Nat.le_of_ble_eq_true rfl) dX6_writeOut_38 (fun g_5 H locs eg_5 hP hS => ?_)
            have hb_5 : g_5 b = .inr (6, [.ref (ad (b + 1)), .ref (ad (b + 3)), .ref (ad (b + 4)), .int (nI (pOp ps)), .int (nI (pWt ps)), .int (nI (pLt ps)), .int (nI (pRd ps)), .int (nI (pEm ps)), .int (nI (0)), .int (nI (ft)), .int (nI (fp))]) := by rw [eg_5, va_up_self]; exact rfl
            have hb___1_5 : g_5 (b + 1) = .inr (0, [.ref (ad (b + 2)), .int (nI (apL (pLen (wrL (pB ps) fr ps c1))))]) := ((congrFun eg_5 _).trans (va_up_ne _ _ (by omega))).trans h_b___1__4
            have hb___2_5 : g_5 (b + 2) = .inl (cy 0, 200, .inl (fun x9 => nI ((apB (pB (wrL (pB ps) fr ps c1)) (pLen (wrL (pB ps) fr ps c1)) (pB ps (fr + c1))) x9))) := ((congrFun eg_5 _).trans (va_up_ne _ _ (by omega))).trans h_b___2__4
            have hb___3_5 : g_5 (b + 3) = .inl (cy 1, 4, .inl (fun x9 => nI ((pSt ps) x9))) := ((congrFun eg_5 _).trans (va_up_ne _ _ (by omega))).trans hb___3_4
            have hb___4_5 : g_5 (b + 4) = .inl (cy 1, 4, .inl (fun x9 => nI ((pTm ps) x9))) := ((congrFun eg_5 _).trans (va_up_ne _ _ (by omega))).trans hb___4_4
            have hfr_5 : ∀ j : Nat, j ≠ b → j ≠ (b + 1) → j ≠ (b + 2) → g_5 j = g j := fun j n0 n1 n2 => ((congrFun eg_5 _).trans (va_up_ne _ _ n0)).trans (hfr_4 j n0 n1 n2)
            refine lv_iinc (v := nI ((fr + c1) + 1)) (lv' := [(4, .int (nI ((fr + c1) + 1))), (0, .ref (ad b)), (1, .ref (ad (b + 1))), (2, .int (nI (fr))), (3, .int (nI (to)))]) hx hb dX6_writeOut_41 hl (k := 0) rfl (by exact nI_add (fr + c1) 1) (by decide) rfl (fun ls hl => ?_)
            refine lv_goto (tgt := 3) hx hb dX6_writeOut_44 (by decide) ?_
            exact ih3 (c1 + 1) (by omega) (by omega) g_5 _ _ (by rw [hwr]; exact hb_5) (by rw [hwr]; exact hb___1_5) (by rw [hwr]; exact hb___2_5) hfr_5 hP hS _ (lv_sub hl [0, 1, 2, 3, 4] rfl)
          · skip
            have c_30 := bz_eq.mp c_30
            have hwr := wrL_s2 c_13 c_30
            refine lv_iconst (v := nI (1)) hx hb dX6_writeOut_33 (by decide) ?_
            refine lv_goto (tgt := 38) hx hb dX6_writeOut_34 (by decide) ?_
            refine mp S hK hP hI hS (by omega) hb_4 fd_X6_53 (nz_01 (by first | exact Or.inl rfl | exact Or.inr rfl)) (fz_01 (by first | exact Or.inl rfl | exact Or.inr rfl)) (Nat.le_of_ble_eq_true rfl) dX6_writeOut_38 (fun g_6 H locs eg_6 hP hS => ?_)
            have hb_6 : g_6 b = .inr (6, [.ref (ad (b + 1)), .ref (ad (b + 3)), .ref (ad (b + 4)), .int (nI (pOp ps)), .int (nI (pWt ps)), .int (nI (pLt ps)), .int (nI (pRd ps)), .int (nI (pEm ps)), .int (nI (1)), .int (nI (ft)), .int (nI (fp))]) := by rw [eg_6, va_up_self]; exact rfl
            have hb___1_6 : g_6 (b + 1) = .inr (0, [.ref (ad (b + 2)), .int (nI (apL (pLen (wrL (pB ps) fr ps c1))))]) := ((congrFun eg_6 _).trans (va_up_ne _ _ (by omega))).trans h_b___1__4
            have hb___2_6 : g_6 (b + 2) = .inl (cy 0, 200, .inl (fun x9 => nI ((apB (pB (wrL (pB ps) fr ps c1)) (pLen (wrL (pB ps) fr ps c1)) (pB ps (fr + c1))) x9))) := ((congrFun eg_6 _).trans (va_up_ne _ _ (by omega))).trans h_b___2__4
            have hb___3_6 : g_6 (b + 3) = .inl (cy 1, 4, .inl (fun x9 => nI ((pSt ps) x9))) := ((congrFun eg_6 _).trans (va_up_ne _ _ (by omega))).trans hb___3_4
            have hb___4_6 : g_6 (b + 4) = .inl (cy 1, 4, .inl (fun x9 => nI ((pTm ps) x9))) := ((congrFun eg_6 _).trans (va_up_ne _ _ (by omega))).trans hb___4_4
            have hfr_6 : ∀ j : Nat, j ≠ b → j ≠ (b + 1) → j ≠ (b + 2) → g_6 j = g j := fun j n0 n1 n2 => ((congrFun eg_6 _).trans (va_up_ne _ _ n0)).trans (hfr_4 j n0 n1 n2)
            refine lv_iinc (v := nI ((fr + c1) + 1)) (lv' := [(4, .int (nI ((fr + c1) + 1))), (0, .ref (ad b)), (1, .ref (ad (b + 1))), (2, .int (nI (fr))), (3, .int (nI (to)))]) hx hb dX6_writeOut_41 hl (k := 0) rfl (by exact nI_add (fr + c1) 1) (by decide) rfl (fun ls hl => ?_)
            refine lv_goto (tgt := 3) hx hb dX6_writeOut_44 (by decide) ?_
            exact ih3 (c1 + 1) (by omega) (by omega) g_6 _ _ (by rw [hwr]; exact hb_6) (by rw [hwr]; exact hb___1_6) (by rw [hwr]; exact hb___2_6) hfr_6 hP hS _ (lv_sub hl [0, 1, 2, 3, 4] rfl)
  exact L3 ((to - (fr + 0)) + 1) 0 (by omega) (Nat.lt_succ_self _) g _ _ hg hgd hgb (fun j n0 n1 n2 => hfr j ) hP hS _ (lv_sub hl [0, 1, 2, 3, 4] rfl)


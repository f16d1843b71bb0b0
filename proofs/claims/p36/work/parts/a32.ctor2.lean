theorem ci_X9_9 : CI RX9 9 yX1_init cX1_init 2 0 := CI.of m_X9_9 mi_yX1_init mn_RX1 mc_yX1_init rfl (by decide +kernel)
theorem ci_X1_11 : CI RX1 11 yX8_init cX8_init 1 0 := CI.of m_X1_11 mi_yX8_init mn_RX8 mc_yX8_init rfl (by decide +kernel)
theorem ci_X9_21 : CI RX9 21 yX8_init cX8_init 1 0 := CI.of m_X9_21 mi_yX8_init mn_RX8 mc_yX8_init rfl (by decide +kernel)
theorem ci_X2_33 : CI RX2 33 yX8_init cX8_init 1 0 := CI.of m_X2_33 mi_yX8_init mn_RX8 mc_yX8_init rfl (by decide +kernel)
set_option maxHeartbeats 4000000 in
set_option maxRecDepth 100000 in
theorem c_X8_init (l : Launch) (D : va_G) (cy : Nat → ClassId) (b0 N : Nat) (g : Nat → va_E) (k : Nat) (hk : k < N) (hg : g k = .inr (8, [.int (nI 0), .long (lN 0), .int (nI 0), .int (nI 0), .long (lN 0)])) : Met l yX8_init (WS yX8_init cX8_init 1 none) (rmG 2 0 0 41) (PG [.ref (bd b0 k)] D cy b0 N g) (QG (fun g1 => g1 k = .inr (8, [.int (nI 5), .long (lN (sea (fun p => p) 5)), .int (nI (2 ^ 5 - 1)), .int (nI (2 ^ 5 - 1)), .long (lN 0)]) ∧ ∀ j, j < N → j ≠ k → g1 j = g j) D b0 N) 0 0 (AB b0) := by
  refine gentry (by decide) (Nat.le_of_ble_eq_true rfl) (fun p e s m below meth c ls S hr hlk hnm hz0 hP hK hN hl => ?_)
  have S : CallFix p m c cX8_init 1 s _ wsL_law RX8 := S
  have hx := S.1
  have hb := S.2.1
  have hl : lv_has ls 1 [(0, .ref (bd b0 k))] := hl
  have hS : va_S (AB b0) s.heap s.heap [] := va_S.rf
  have hA : ∀ q, s.heap.size ≤ q → AB b0 q := fun q h => by show b0 ≤ q; omega
  have hfr : ∀ j : Nat, j < N → j ≠ k → g j = g j := fun _ _ _ => rfl
  refine lv_aload_n hx hb dX8_init_0 rfl (lv_at hl 0 rfl) ?_
  refine W.objInit hx hb S.2.2.2.1 (S.2.2.2.2 _ m_X8_3) (S.2.2.2.2 _ mi_objectInit) (S.2.2.2.2 _ mc_objectInit) rfl (hl.1.trans S.2.2.1.symm) rfl dX8_init_1 (Nat.le_of_ble_eq_true rfl) (Nat.le_of_ble_eq_true rfl) ?_
  refine W.eq (g2 := F0 m 4 ls []) rfl ?_
  refine lv_aload_n hx hb dX8_init_4 rfl (lv_at hl 0 rfl) ?_
  refine lv_iconst (v := nI 5) hx hb dX8_init_5 (by decide) ?_
  refine kMv (As := [.int (nI 5)]) (rest := []) S hK hP hS AA_AB (c_X8_begin l D cy (bd b0) N g bd_inj k hk _ _ _ _ _ hg 5 (by decide) (by decide)) cv_X8_9 hk hg ⟨_, _, rfl⟩ ⟨rfl, rfl⟩ rfl hl.1 rfl (Nat.le_of_ble_eq_true rfl) ⟨Nat.zero_le _, Nat.zero_le _⟩ dX8_init_6 (fun g_1 H locs q_1 hP hS => ?_)
  obtain ⟨hk_1, f_1⟩ := q_1
  have hfr_1 : ∀ j : Nat, j < N → j ≠ k → g_1 j = g j := fun j a b => (f_1 j b).trans (hfr j a b)
  refine W_hz hz0 hP (by omega) (by omega) (fun hz => ?_)
  exact rGv S hr hlk hz hP hS ⟨hk_1, hfr_1⟩ (Nat.le_of_ble_eq_true rfl) (Nat.le_of_ble_eq_true rfl) dX8_init_9
set_option maxHeartbeats 4000000 in
set_option maxRecDepth 100000 in
theorem c_X6_init (l : Launch) (D : va_G) (cy : Nat → ClassId) (b0 N : Nat) (g : Nat → va_E) (k : Nat) (hk : k < N) (hg : g k = .inr (6, [.null, .null, .null, .int (nI 0), .int (nI 0), .int (nI 0), .int (nI 0), .int (nI 0), .int (nI 0), .int (nI 0), .int (nI 0)])) : Met l yX6_init (WS yX6_init cX6_init 1 none) (rmG 2 4 210 33) (PG [.ref (bd b0 k)] D cy b0 N g) (QG (fun g1 => g1 k = .inr (6, [.ref (bd b0 N), .ref (bd b0 (N + 2)), .ref (bd b0 (N + 3)), .int (nI 0), .int (nI 0), .int (nI 0), .int (nI 0), .int (nI 0), .int (nI 0), .int (nI 0), .int (nI 0)]) ∧ g1 N = .inr (0, [.ref (bd b0 (N + 1)), .int (nI 0)]) ∧ g1 (N + 1) = .inl (cy 0, 200, .inl (fun x9 => nI ((fun _ => 0) x9))) ∧ g1 (N + 2) = .inl (cy 1, 4, .inl (fun x9 => nI ((fun _ => 0) x9))) ∧ g1 (N + 3) = .inl (cy 1, 4, .inl (fun x9 => nI ((fun _ => 0) x9))) ∧ ∀ j, j < N → j ≠ k → g1 j = g j) D b0 (N + 4)) 4 210 (AB b0) := by
  refine gentry (by decide) (Nat.le_of_ble_eq_true rfl) (fun p e s m below meth c ls S hr hlk hnm hz0 hP hK hN hl => ?_)
  have S : CallFix p m c cX6_init 1 s _ wsL_law RX6 := S
  have hx := S.1
  have hb := S.2.1
  have hl : lv_has ls 1 [(0, .ref (bd b0 k))] := hl
  have hS : va_S (AB b0) s.heap s.heap [] := va_S.rf
  have hA : ∀ q, s.heap.size ≤ q → AB b0 q := fun q h => by show b0 ≤ q; omega
  have hfr : ∀ j : Nat, j < N → j ≠ k → g j = g j := fun _ _ _ => rfl
  refine lv_aload_n hx hb dX6_init_0 rfl (lv_at hl 0 rfl) ?_
  refine W.objInit hx hb S.2.2.2.1 (S.2.2.2.2 _ m_X6_3) (S.2.2.2.2 _ mi_objectInit) (S.2.2.2.2 _ mc_objectInit) rfl (hl.1.trans S.2.2.1.symm) rfl dX6_init_1 (Nat.le_of_ble_eq_true rfl) (Nat.le_of_ble_eq_true rfl) ?_
  refine W.eq (g2 := F0 m 4 ls []) rfl ?_
  refine lv_aload_n hx hb dX6_init_4 rfl (lv_at hl 0 rfl) ?_
  refine W_hz hz0 hP (by omega) (by omega) (fun hz => ?_)
  refine gnew (ci := 0) (NF := 2) (C := RX0) (T := TX0) (ty := tyX0) (fs := [.null, .int (nI 0)]) S hK hP bd_MD hS hA hz.symm rfl inlX0 tyX0_ok m_X6_9 mj_RX0 mn_RX0 (fun j hj => by rcases (show j = 0 ∨ j = 1 by omega) with rfl | rfl <;> rfl) (Nat.le_of_ble_eq_true rfl) (Nat.le_of_ble_eq_true rfl) dX6_init_5 (fun g_1 H eg_1 hP _ hS _ => ?_)
  have hk_1 : g_1 k = .inr (6, [.null, .null, .null, .int (nI 0), .int (nI 0), .int (nI 0), .int (nI 0), .int (nI 0), .int (nI 0), .int (nI 0), .int (nI 0)]) := ((congrFun eg_1 _).trans (va_up_ne _ _ (nkl hk 0))).trans hg
  have hN_1 : g_1 N = .inr (0, [.null, .int (nI 0)]) := by (rw [eg_1, va_up_self]) <;> exact rfl
  have hfr_1 : ∀ j : Nat, j < N → j ≠ k → g_1 j = g j := fun j a b => ((congrFun eg_1 _).trans (va_up_ne _ _ (nkl a 0))).trans (hfr j a b)
  refine lv_dup hx hb dX6_init_8 rfl ?_
  refine W_hz hz0 hP (by omega) (by omega) (fun hz => ?_)
  refine kGN (As := []) (rest := [.ref (bd b0 N), .ref (bd b0 k)]) S hK hN hz hP hS (c_X0_init l D cy b0 (N + 1) g_1 N (by omega) hN_1) (by decide) mi_yX0_init mn_RX0 mc_yX0_init rfl (by decide +kernel) ⟨rfl, rfl⟩ rfl hl.1 rfl (Nat.le_of_ble_eq_true rfl) ⟨Nat.le_of_ble_eq_true rfl, Nat.le_of_ble_eq_true rfl⟩ dX6_init_9 (fun g_2 H locs q_2 _ hP hS => ?_)
  obtain ⟨x0_2, x1_2, f_2⟩ := q_2
  have hk_2 : g_2 k = .inr (6, [.null, .null, .null, .int (nI 0), .int (nI 0), .int (nI 0), .int (nI 0), .int (nI 0), .int (nI 0), .int (nI 0), .int (nI 0)]) := (f_2 k (lkn hk 1) (nkl hk 0)).trans hk_1
  have hN_2 : g_2 N = .inr (0, [.ref (bd b0 (N + 1)), .int (nI 0)]) := x0_2
  have hN___1_2 : g_2 (N + 1) = .inl (cy 0, 200, .inl (fun x9 => nI ((fun _ => 0) x9))) := x1_2
  have hfr_2 : ∀ j : Nat, j < N → j ≠ k → g_2 j = g j := fun j a b => (f_2 j (lkn a 1) (nkl a 0)).trans (hfr_1 j a b)
  refine mpF S hnm hK hP bd_MD hS (by omega) hk_2 fd_X6_12 (fun r z => by cases z; rfl) rfl rfl (Nat.le_of_ble_eq_true rfl) dX6_init_12 (fun g_3 H locs eg_3 hP hS => ?_)
  have hk_3 : g_3 k = .inr (6, [.ref (bd b0 N), .null, .null, .int (nI 0), .int (nI 0), .int (nI 0), .int (nI 0), .int (nI 0), .int (nI 0), .int (nI 0), .int (nI 0)]) := by (rw [eg_3, va_up_self]) <;> exact rfl
  have hN_3 : g_3 N = .inr (0, [.ref (bd b0 (N + 1)), .int (nI 0)]) := ((congrFun eg_3 _).trans (va_up_ne _ _ (nkr hk 0))).trans hN_2
  have hN___1_3 : g_3 (N + 1) = .inl (cy 0, 200, .inl (fun x9 => nI ((fun _ => 0) x9))) := ((congrFun eg_3 _).trans (va_up_ne _ _ (nkr hk 1))).trans hN___1_2
  have hfr_3 : ∀ j : Nat, j < N → j ≠ k → g_3 j = g j := fun j a b => ((congrFun eg_3 _).trans (va_up_ne _ _ b)).trans (hfr_2 j a b)
  refine lv_aload_n hx hb dX6_init_15 rfl (lv_at hl 0 rfl) ?_
  refine lv_iconst (v := nI 4) hx hb dX6_init_16 (by decide) ?_
  refine W_hz hz0 hP (by omega) (by omega) (fun hz => ?_)
  refine gnewa (atype := .int) (t := 1) (n0 := 4) (a0 := (4, .inl (fun x9 => nI ((fun _ => 0) x9)))) S hK hP bd_MD hS hA hz.symm ma_int rfl (za_int 4) (by decide) (by decide) (Nat.le_of_ble_eq_true rfl) (Nat.le_of_ble_eq_true rfl) (Nat.le_of_ble_eq_true rfl) dX6_init_17 (fun g_4 H eg_4 hP _ hS _ => ?_)
  have hk_4 : g_4 k = .inr (6, [.ref (bd b0 N), .null, .null, .int (nI 0), .int (nI 0), .int (nI 0), .int (nI 0), .int (nI 0), .int (nI 0), .int (nI 0), .int (nI 0)]) := ((congrFun eg_4 _).trans (va_up_ne _ _ (nkl hk 2))).trans hk_3
  have hN_4 : g_4 N = .inr (0, [.ref (bd b0 (N + 1)), .int (nI 0)]) := ((congrFun eg_4 _).trans (va_up_ne _ _ (nab 0 2 rfl))).trans hN_3
  have hN___1_4 : g_4 (N + 1) = .inl (cy 0, 200, .inl (fun x9 => nI ((fun _ => 0) x9))) := ((congrFun eg_4 _).trans (va_up_ne _ _ (nab 1 2 rfl))).trans hN___1_3
  have hN___2_4 : g_4 (N + 2) = .inl (cy 1, 4, .inl (fun x9 => nI ((fun _ => 0) x9))) := by (rw [eg_4, va_up_self]) <;> exact rfl
  have hfr_4 : ∀ j : Nat, j < N → j ≠ k → g_4 j = g j := fun j a b => ((congrFun eg_4 _).trans (va_up_ne _ _ (nkl a 2))).trans (hfr_3 j a b)
  refine mpF S hnm hK hP bd_MD hS (by omega) hk_4 fd_X6_18 (fun r z => by cases z; rfl) rfl rfl (Nat.le_of_ble_eq_true rfl) dX6_init_19 (fun g_5 H locs eg_5 hP hS => ?_)
  have hk_5 : g_5 k = .inr (6, [.ref (bd b0 N), .ref (bd b0 (N + 2)), .null, .int (nI 0), .int (nI 0), .int (nI 0), .int (nI 0), .int (nI 0), .int (nI 0), .int (nI 0), .int (nI 0)]) := by (rw [eg_5, va_up_self]) <;> exact rfl
  have hN_5 : g_5 N = .inr (0, [.ref (bd b0 (N + 1)), .int (nI 0)]) := ((congrFun eg_5 _).trans (va_up_ne _ _ (nkr hk 0))).trans hN_4
  have hN___1_5 : g_5 (N + 1) = .inl (cy 0, 200, .inl (fun x9 => nI ((fun _ => 0) x9))) := ((congrFun eg_5 _).trans (va_up_ne _ _ (nkr hk 1))).trans hN___1_4
  have hN___2_5 : g_5 (N + 2) = .inl (cy 1, 4, .inl (fun x9 => nI ((fun _ => 0) x9))) := ((congrFun eg_5 _).trans (va_up_ne _ _ (nkr hk 2))).trans hN___2_4
  have hfr_5 : ∀ j : Nat, j < N → j ≠ k → g_5 j = g j := fun j a b => ((congrFun eg_5 _).trans (va_up_ne _ _ b)).trans (hfr_4 j a b)
  refine lv_aload_n hx hb dX6_init_22 rfl (lv_at hl 0 rfl) ?_
  refine lv_iconst (v := nI 4) hx hb dX6_init_23 (by decide) ?_
  refine W_hz hz0 hP (by omega) (by omega) (fun hz => ?_)
  refine gnewa (atype := .int) (t := 1) (n0 := 4) (a0 := (4, .inl (fun x9 => nI ((fun _ => 0) x9)))) S hK hP bd_MD hS hA hz.symm ma_int rfl (za_int 4) (by decide) (by decide) (Nat.le_of_ble_eq_true rfl) (Nat.le_of_ble_eq_true rfl) (Nat.le_of_ble_eq_true rfl) dX6_init_24 (fun g_6 H eg_6 hP _ hS _ => ?_)
  have hk_6 : g_6 k = .inr (6, [.ref (bd b0 N), .ref (bd b0 (N + 2)), .null, .int (nI 0), .int (nI 0), .int (nI 0), .int (nI 0), .int (nI 0), .int (nI 0), .int (nI 0), .int (nI 0)]) := ((congrFun eg_6 _).trans (va_up_ne _ _ (nkl hk 3))).trans hk_5
  have hN_6 : g_6 N = .inr (0, [.ref (bd b0 (N + 1)), .int (nI 0)]) := ((congrFun eg_6 _).trans (va_up_ne _ _ (nab 0 3 rfl))).trans hN_5
  have hN___1_6 : g_6 (N + 1) = .inl (cy 0, 200, .inl (fun x9 => nI ((fun _ => 0) x9))) := ((congrFun eg_6 _).trans (va_up_ne _ _ (nab 1 3 rfl))).trans hN___1_5
  have hN___2_6 : g_6 (N + 2) = .inl (cy 1, 4, .inl (fun x9 => nI ((fun _ => 0) x9))) := ((congrFun eg_6 _).trans (va_up_ne _ _ (nab 2 3 rfl))).trans hN___2_5
  have hN___3_6 : g_6 (N + 3) = .inl (cy 1, 4, .inl (fun x9 => nI ((fun _ => 0) x9))) := by (rw [eg_6, va_up_self]) <;> exact rfl
  have hfr_6 : ∀ j : Nat, j < N → j ≠ k → g_6 j = g j := fun j a b => ((congrFun eg_6 _).trans (va_up_ne _ _ (nkl a 3))).trans (hfr_5 j a b)
  refine mpF S hnm hK hP bd_MD hS (by omega) hk_6 fd_X6_22 (fun r z => by cases z; rfl) rfl rfl (Nat.le_of_ble_eq_true rfl) dX6_init_26 (fun g_7 H locs eg_7 hP hS => ?_)
  have hk_7 : g_7 k = .inr (6, [.ref (bd b0 N), .ref (bd b0 (N + 2)), .ref (bd b0 (N + 3)), .int (nI 0), .int (nI 0), .int (nI 0), .int (nI 0), .int (nI 0), .int (nI 0), .int (nI 0), .int (nI 0)]) := by (rw [eg_7, va_up_self]) <;> exact rfl
  have hN_7 : g_7 N = .inr (0, [.ref (bd b0 (N + 1)), .int (nI 0)]) := ((congrFun eg_7 _).trans (va_up_ne _ _ (nkr hk 0))).trans hN_6
  have hN___1_7 : g_7 (N + 1) = .inl (cy 0, 200, .inl (fun x9 => nI ((fun _ => 0) x9))) := ((congrFun eg_7 _).trans (va_up_ne _ _ (nkr hk 1))).trans hN___1_6
  have hN___2_7 : g_7 (N + 2) = .inl (cy 1, 4, .inl (fun x9 => nI ((fun _ => 0) x9))) := ((congrFun eg_7 _).trans (va_up_ne _ _ (nkr hk 2))).trans hN___2_6
  have hN___3_7 : g_7 (N + 3) = .inl (cy 1, 4, .inl (fun x9 => nI ((fun _ => 0) x9))) := ((congrFun eg_7 _).trans (va_up_ne _ _ (nkr hk 3))).trans hN___3_6
  have hfr_7 : ∀ j : Nat, j < N → j ≠ k → g_7 j = g j := fun j a b => ((congrFun eg_7 _).trans (va_up_ne _ _ b)).trans (hfr_6 j a b)
  refine W_hz hz0 hP (by omega) (by omega) (fun hz => ?_)
  exact rGv S hr hlk hz hP hS ⟨hk_7, hN_7, hN___1_7, hN___2_7, hN___3_7, hfr_7⟩ (Nat.le_of_ble_eq_true rfl) (Nat.le_of_ble_eq_true rfl) dX6_init_29


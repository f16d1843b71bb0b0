set_option maxHeartbeats 4000000 in
set_option maxRecDepth 100000 in
theorem c_X3_init (l : Launch) (D : va_G) (cy : Nat → ClassId) (b0 N : Nat) (g : Nat → va_E) (k : Nat) (hk : k < N) (hg : g k = .inr (3, [.null, .null])) : Met l yX3_init (WS yX3_init cX3_init 1 none) (rmG 2 20 324 33) (PG [.ref (bd b0 k)] D cy b0 N g) (QG (fun g1 => g1 k = .inr (3, [.ref (bd b0 N), .ref (bd b0 (N + 18))]) ∧ g1 N = .inl (cy 7, 17, .inr (.inr (.inr (.inr (mrw (bd b0 N) 17))))) ∧ g1 (N + 18) = .inr (7, [.ref (bd b0 (N + 19)), .int (nI 0)]) ∧ g1 (N + 19) = .inl (cy 1, 16, .inl (fun x9 => nI ((fun _ => 0) x9))) ∧ (∀ j, j < 17 → g1 (N + 1 + j) = .inl (cy 1, 17, .inl (fun x9 => nI ((fun _ => 0) x9)))) ∧ ∀ j, j < N → j ≠ k → g1 j = g j) D b0 (N + 20)) 20 324 (AB b0) := by
  refine gentry (by decide) (Nat.le_of_ble_eq_true rfl) (fun p e s m below meth c ls S hr hlk hnm hz0 hP hK hN hl => ?_)
  have S : CallFix p m c cX3_init 1 s _ wsL_law RX3 := S
  have hx := S.1
  have hb := S.2.1
  have hl : lv_has ls 1 [(0, .ref (bd b0 k))] := hl
  have hS : va_S (AB b0) s.heap s.heap [] := va_S.rf
  have hA : ∀ q, s.heap.size ≤ q → AB b0 q := fun q h => by show b0 ≤ q; omega
  have hfr : ∀ j : Nat, j < N → j ≠ k → g j = g j := fun _ _ _ => rfl
  refine lv_aload_n hx hb dX3_init_0 rfl (lv_at hl 0 rfl) ?_
  refine W.objInit hx hb S.2.2.2.1 (S.2.2.2.2 _ m_X3_3) (S.2.2.2.2 _ mi_objectInit) (S.2.2.2.2 _ mc_objectInit) rfl (hl.1.trans S.2.2.1.symm) rfl dX3_init_1 (Nat.le_of_ble_eq_true rfl) (Nat.le_of_ble_eq_true rfl) ?_
  refine W.eq (g2 := F0 m 4 ls []) rfl ?_
  refine lv_aload_n hx hb dX3_init_4 rfl (lv_at hl 0 rfl) ?_
  refine lv_bipush (v := nI 17) hx hb dX3_init_5 (by decide) ?_
  refine lv_bipush (v := nI 17) hx hb dX3_init_7 (by decide) ?_
  refine W_hz hz0 hP (by omega) (by omega) (fun hz => ?_)
  refine gmulti S hK hN hz hP hS m_X3_9 (Nat.le_of_ble_eq_true rfl) (Nat.le_of_ble_eq_true rfl) dX3_init_9 (fun g_1 H f_1 x_1 y_1 hP hS hz => ?_)
  have hk_1 : g_1 k = .inr (3, [.null, .null]) := (f_1 k hk).trans hg
  have hfr_1 : ∀ j : Nat, j < N → j ≠ k → g_1 j = g j := fun j a b => (f_1 j a).trans (hfr j a b)
  refine mpF S hnm hK hP bd_MD hS (by omega) hk_1 fd_X3_11 (fun r z => by cases z; rfl) rfl rfl (Nat.le_of_ble_eq_true rfl) dX3_init_13 (fun g_2 H locs eg_2 hP hS => ?_)
  have hk_2 : g_2 k = .inr (3, [.ref (bd b0 N), .null]) := by (rw [eg_2, va_up_self]) <;> exact rfl
  have hN_2 : g_2 N = .inl (cy 7, 17, .inr (.inr (.inr (.inr (mrw (bd b0 N) 17))))) := ((congrFun eg_2 _).trans (va_up_ne _ _ (nkr hk 0))).trans x_1
  have hF1_2 : ∀ j, j < 17 → g_2 (N + 1 + j) = .inl (cy 1, 17, .inl (fun x9 => nI ((fun _ => 0) x9))) := fun j hj => ((congrFun eg_2 _).trans (va_up_ne _ _ (by omega))).trans (y_1 j hj)
  have hfr_2 : ∀ j : Nat, j < N → j ≠ k → g_2 j = g j := fun j a b => ((congrFun eg_2 _).trans (va_up_ne _ _ b)).trans (hfr_1 j a b)
  refine lv_aload_n hx hb dX3_init_16 rfl (lv_at hl 0 rfl) ?_
  refine W_hz hz0 hP (by omega) (by omega) (fun hz => ?_)
  refine gnew (ci := 7) (NF := 2) (C := RX7) (T := TX7) (ty := tyX7) (fs := [.null, .int (nI 0)]) S hK hP bd_MD hS hA hz.symm rfl inlX7 tyX7_ok m_X3_16 mj_RX7 mn_RX7 (fun j hj => by rcases (show j = 0 ∨ j = 1 by omega) with rfl | rfl <;> rfl) (Nat.le_of_ble_eq_true rfl) (Nat.le_of_ble_eq_true rfl) dX3_init_17 (fun g_3 H eg_3 hP _ hS _ => ?_)
  have hk_3 : g_3 k = .inr (3, [.ref (bd b0 N), .null]) := ((congrFun eg_3 _).trans (va_up_ne _ _ (nkl hk 18))).trans hk_2
  have hN_3 : g_3 N = .inl (cy 7, 17, .inr (.inr (.inr (.inr (mrw (bd b0 N) 17))))) := ((congrFun eg_3 _).trans (va_up_ne _ _ (nab 0 18 rfl))).trans hN_2
  have hN___18_3 : g_3 (N + 18) = .inr (7, [.null, .int (nI 0)]) := by (rw [eg_3, va_up_self]) <;> exact rfl
  have hF1_3 : ∀ j, j < 17 → g_3 (N + 1 + j) = .inl (cy 1, 17, .inl (fun x9 => nI ((fun _ => 0) x9))) := fun j hj => ((congrFun eg_3 _).trans (va_up_ne _ _ (by omega))).trans (hF1_2 j hj)
  have hfr_3 : ∀ j : Nat, j < N → j ≠ k → g_3 j = g j := fun j a b => ((congrFun eg_3 _).trans (va_up_ne _ _ (nkl a 18))).trans (hfr_2 j a b)
  refine lv_dup hx hb dX3_init_20 rfl ?_
  refine W_hz hz0 hP (by omega) (by omega) (fun hz => ?_)
  refine kGN (As := []) (rest := [.ref (bd b0 (N + 18)), .ref (bd b0 k)]) S hK hN hz hP hS (c_X7_init l D cy b0 (N + 19) g_3 (N + 18) (by omega) hN___18_3) (by decide) mi_yX7_init mn_RX7 mc_yX7_init rfl (by decide +kernel) ⟨rfl, rfl⟩ rfl hl.1 rfl (Nat.le_of_ble_eq_true rfl) ⟨Nat.le_of_ble_eq_true rfl, Nat.le_of_ble_eq_true rfl⟩ dX3_init_21 (fun g_4 H locs q_4 _ hP hS => ?_)
  obtain ⟨x0_4, x1_4, f_4⟩ := q_4
  have hk_4 : g_4 k = .inr (3, [.ref (bd b0 N), .null]) := (f_4 k (lkn hk 19) (nkl hk 18)).trans hk_3
  have hN_4 : g_4 N = .inl (cy 7, 17, .inr (.inr (.inr (.inr (mrw (bd b0 N) 17))))) := (f_4 N (lab 0 19 rfl) (nab 0 18 rfl)).trans hN_3
  have hN___18_4 : g_4 (N + 18) = .inr (7, [.ref (bd b0 (N + 19)), .int (nI 0)]) := x0_4
  have hN___19_4 : g_4 (N + 19) = .inl (cy 1, 16, .inl (fun x9 => nI ((fun _ => 0) x9))) := x1_4
  have hF1_4 : ∀ j, j < 17 → g_4 (N + 1 + j) = .inl (cy 1, 17, .inl (fun x9 => nI ((fun _ => 0) x9))) := fun j hj => (f_4 _ (by omega) (by omega)).trans (hF1_3 j hj)
  have hfr_4 : ∀ j : Nat, j < N → j ≠ k → g_4 j = g j := fun j a b => (f_4 j (lkn a 19) (nkl a 18)).trans (hfr_3 j a b)
  refine mpF S hnm hK hP bd_MD hS (by omega) hk_4 fd_X3_19 (fun r z => by cases z; rfl) rfl rfl (Nat.le_of_ble_eq_true rfl) dX3_init_24 (fun g_5 H locs eg_5 hP hS => ?_)
  have hk_5 : g_5 k = .inr (3, [.ref (bd b0 N), .ref (bd b0 (N + 18))]) := by (rw [eg_5, va_up_self]) <;> exact rfl
  have hN_5 : g_5 N = .inl (cy 7, 17, .inr (.inr (.inr (.inr (mrw (bd b0 N) 17))))) := ((congrFun eg_5 _).trans (va_up_ne _ _ (nkr hk 0))).trans hN_4
  have hN___18_5 : g_5 (N + 18) = .inr (7, [.ref (bd b0 (N + 19)), .int (nI 0)]) := ((congrFun eg_5 _).trans (va_up_ne _ _ (nkr hk 18))).trans hN___18_4
  have hN___19_5 : g_5 (N + 19) = .inl (cy 1, 16, .inl (fun x9 => nI ((fun _ => 0) x9))) := ((congrFun eg_5 _).trans (va_up_ne _ _ (nkr hk 19))).trans hN___19_4
  have hF1_5 : ∀ j, j < 17 → g_5 (N + 1 + j) = .inl (cy 1, 17, .inl (fun x9 => nI ((fun _ => 0) x9))) := fun j hj => ((congrFun eg_5 _).trans (va_up_ne _ _ (by omega))).trans (hF1_4 j hj)
  have hfr_5 : ∀ j : Nat, j < N → j ≠ k → g_5 j = g j := fun j a b => ((congrFun eg_5 _).trans (va_up_ne _ _ b)).trans (hfr_4 j a b)
  refine W_hz hz0 hP (by omega) (by omega) (fun hz => ?_)
  exact rGv S hr hlk hz hP hS ⟨hk_5, hN_5, hN___18_5, hN___19_5, hF1_5, hfr_5⟩ (Nat.le_of_ble_eq_true rfl) (Nat.le_of_ble_eq_true rfl) dX3_init_27


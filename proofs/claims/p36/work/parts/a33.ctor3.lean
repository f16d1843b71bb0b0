set_option maxHeartbeats 4000000 in
set_option maxRecDepth 100000 in
theorem c_X2_init (l : Launch) (D : va_G) (cy : Nat → ClassId) (b0 N : Nat) (g : Nat → va_E) (k : Nat) (hk : k < N) (hg : g k = .inr (2, [.null, .null, .null, .null, .null, .null, .null, .null, .null, .long (lN 0), .int (nI 0), .int (nI 0), .int (nI 0), .int (nI 0)])) : Met l yX2_init (WS yX2_init cX2_init 1 none) (rmG 3 9 11611 61) (PG [.ref (bd b0 k)] D cy b0 N g) (QG (fun g1 => g1 k = .inr (2, [.ref (bd b0 N), .ref (bd b0 (N + 1)), .ref (bd b0 (N + 2)), .ref (bd b0 (N + 3)), .ref (bd b0 (N + 4)), .ref (bd b0 (N + 5)), .ref (bd b0 (N + 6)), .ref (bd b0 (N + 7)), .ref (bd b0 (N + 8)), .long (lN 0), .int (nI 0), .int (nI 0), .int (nI 0), .int (nI 0)]) ∧ g1 N = .inl (cy 2, 1500, .inr (.inl (fun x9 => lN ((fun _ => 0) x9)))) ∧ g1 (N + 1) = .inl (cy 2, 1500, .inr (.inl (fun x9 => lN ((fun _ => 0) x9)))) ∧ g1 (N + 2) = .inl (cy 2, 1500, .inr (.inl (fun x9 => lN ((fun _ => 0) x9)))) ∧ g1 (N + 3) = .inl (cy 1, 1500, .inl (fun x9 => nI ((fun _ => 0) x9))) ∧ g1 (N + 4) = .inl (cy 1, 1500, .inl (fun x9 => nI ((fun _ => 0) x9))) ∧ g1 (N + 5) = .inl (cy 1, 4096, .inl (fun x9 => nI ((fun _ => 0) x9))) ∧ g1 (N + 6) = .inr (8, [.int (nI 5), .long (lN (sea (fun p => p) 5)), .int (nI (2 ^ 5 - 1)), .int (nI (2 ^ 5 - 1)), .long (lN 0)]) ∧ g1 (N + 7) = .inr (8, [.int (nI 5), .long (lN (sea (fun p => p) 5)), .int (nI (2 ^ 5 - 1)), .int (nI (2 ^ 5 - 1)), .long (lN 0)]) ∧ g1 (N + 8) = .inr (8, [.int (nI 5), .long (lN (sea (fun p => p) 5)), .int (nI (2 ^ 5 - 1)), .int (nI (2 ^ 5 - 1)), .long (lN 0)]) ∧ ∀ j, j < N → j ≠ k → g1 j = g j) D b0 (N + 9)) 9 11611 (AB b0) := by
  refine gentry (by decide) (Nat.le_of_ble_eq_true rfl) (fun p e s m below meth c ls S hr hlk hnm hz0 hP hK hN hl => ?_)
  have S : CallFix p m c cX2_init 1 s _ wsL_law RX2 := S
  have hx := S.1
  have hb := S.2.1
  have hl : lv_has ls 1 [(0, .ref (bd b0 k))] := hl
  have hS : va_S (AB b0) s.heap s.heap [] := va_S.rf
  have hA : ∀ q, s.heap.size ≤ q → AB b0 q := fun q h => by show b0 ≤ q; omega
  have hfr : ∀ j : Nat, j < N → j ≠ k → g j = g j := fun _ _ _ => rfl
  refine lv_aload_n hx hb dX2_init_0 rfl (lv_at hl 0 rfl) ?_
  refine W.objInit hx hb S.2.2.2.1 (S.2.2.2.2 _ m_X2_3) (S.2.2.2.2 _ mi_objectInit) (S.2.2.2.2 _ mc_objectInit) rfl (hl.1.trans S.2.2.1.symm) rfl dX2_init_1 (Nat.le_of_ble_eq_true rfl) (Nat.le_of_ble_eq_true rfl) ?_
  refine W.eq (g2 := F0 m 4 ls []) rfl ?_
  refine lv_aload_n hx hb dX2_init_4 rfl (lv_at hl 0 rfl) ?_
  refine lv_sipush (v := nI 1500) hx hb dX2_init_5 (by decide) ?_
  refine W_hz hz0 hP (by omega) (by omega) (fun hz => ?_)
  refine gnewa (atype := .long) (t := 2) (n0 := 1500) (a0 := (1500, .inr (.inl (fun x9 => lN ((fun _ => 0) x9))))) S hK hP bd_MD hS hA hz.symm ma_long rfl (za_long 1500) (by decide) (by decide) (Nat.le_of_ble_eq_true rfl) (Nat.le_of_ble_eq_true rfl) (Nat.le_of_ble_eq_true rfl) dX2_init_8 (fun g_1 H eg_1 hP _ hS _ => ?_)
  have hk_1 : g_1 k = .inr (2, [.null, .null, .null, .null, .null, .null, .null, .null, .null, .long (lN 0), .int (nI 0), .int (nI 0), .int (nI 0), .int (nI 0)]) := ((congrFun eg_1 _).trans (va_up_ne _ _ (nkl hk 0))).trans hg
  have hN_1 : g_1 N = .inl (cy 2, 1500, .inr (.inl (fun x9 => lN ((fun _ => 0) x9)))) := by (rw [eg_1, va_up_self]) <;> exact rfl
  have hfr_1 : ∀ j : Nat, j < N → j ≠ k → g_1 j = g j := fun j a b => ((congrFun eg_1 _).trans (va_up_ne _ _ (nkl a 0))).trans (hfr j a b)
  refine mpF S hnm hK hP bd_MD hS (by omega) hk_1 fd_X2_9 (fun r z => by cases z; rfl) rfl rfl (Nat.le_of_ble_eq_true rfl) dX2_init_10 (fun g_2 H locs eg_2 hP hS => ?_)
  have hk_2 : g_2 k = .inr (2, [.ref (bd b0 N), .null, .null, .null, .null, .null, .null, .null, .null, .long (lN 0), .int (nI 0), .int (nI 0), .int (nI 0), .int (nI 0)]) := by (rw [eg_2, va_up_self]) <;> exact rfl
  have hN_2 : g_2 N = .inl (cy 2, 1500, .inr (.inl (fun x9 => lN ((fun _ => 0) x9)))) := ((congrFun eg_2 _).trans (va_up_ne _ _ (nkr hk 0))).trans hN_1
  have hfr_2 : ∀ j : Nat, j < N → j ≠ k → g_2 j = g j := fun j a b => ((congrFun eg_2 _).trans (va_up_ne _ _ b)).trans (hfr_1 j a b)
  refine lv_aload_n hx hb dX2_init_13 rfl (lv_at hl 0 rfl) ?_
  refine lv_sipush (v := nI 1500) hx hb dX2_init_14 (by decide) ?_
  refine W_hz hz0 hP (by omega) (by omega) (fun hz => ?_)
  refine gnewa (atype := .long) (t := 2) (n0 := 1500) (a0 := (1500, .inr (.inl (fun x9 => lN ((fun _ => 0) x9))))) S hK hP bd_MD hS hA hz.symm ma_long rfl (za_long 1500) (by decide) (by decide) (Nat.le_of_ble_eq_true rfl) (Nat.le_of_ble_eq_true rfl) (Nat.le_of_ble_eq_true rfl) dX2_init_17 (fun g_3 H eg_3 hP _ hS _ => ?_)
  have hk_3 : g_3 k = .inr (2, [.ref (bd b0 N), .null, .null, .null, .null, .null, .null, .null, .null, .long (lN 0), .int (nI 0), .int (nI 0), .int (nI 0), .int (nI 0)]) := ((congrFun eg_3 _).trans (va_up_ne _ _ (nkl hk 1))).trans hk_2
  have hN_3 : g_3 N = .inl (cy 2, 1500, .inr (.inl (fun x9 => lN ((fun _ => 0) x9)))) := ((congrFun eg_3 _).trans (va_up_ne _ _ (nab 0 1 rfl))).trans hN_2
  have hN___1_3 : g_3 (N + 1) = .inl (cy 2, 1500, .inr (.inl (fun x9 => lN ((fun _ => 0) x9)))) := by (rw [eg_3, va_up_self]) <;> exact rfl
  have hfr_3 : ∀ j : Nat, j < N → j ≠ k → g_3 j = g j := fun j a b => ((congrFun eg_3 _).trans (va_up_ne _ _ (nkl a 1))).trans (hfr_2 j a b)
  refine mpF S hnm hK hP bd_MD hS (by omega) hk_3 fd_X2_15 (fun r z => by cases z; rfl) rfl rfl (Nat.le_of_ble_eq_true rfl) dX2_init_19 (fun g_4 H locs eg_4 hP hS => ?_)
  have hk_4 : g_4 k = .inr (2, [.ref (bd b0 N), .ref (bd b0 (N + 1)), .null, .null, .null, .null, .null, .null, .null, .long (lN 0), .int (nI 0), .int (nI 0), .int (nI 0), .int (nI 0)]) := by (rw [eg_4, va_up_self]) <;> exact rfl
  have hN_4 : g_4 N = .inl (cy 2, 1500, .inr (.inl (fun x9 => lN ((fun _ => 0) x9)))) := ((congrFun eg_4 _).trans (va_up_ne _ _ (nkr hk 0))).trans hN_3
  have hN___1_4 : g_4 (N + 1) = .inl (cy 2, 1500, .inr (.inl (fun x9 => lN ((fun _ => 0) x9)))) := ((congrFun eg_4 _).trans (va_up_ne _ _ (nkr hk 1))).trans hN___1_3
  have hfr_4 : ∀ j : Nat, j < N → j ≠ k → g_4 j = g j := fun j a b => ((congrFun eg_4 _).trans (va_up_ne _ _ b)).trans (hfr_3 j a b)
  refine lv_aload_n hx hb dX2_init_22 rfl (lv_at hl 0 rfl) ?_
  refine lv_sipush (v := nI 1500) hx hb dX2_init_23 (by decide) ?_
  refine W_hz hz0 hP (by omega) (by omega) (fun hz => ?_)
  refine gnewa (atype := .long) (t := 2) (n0 := 1500) (a0 := (1500, .inr (.inl (fun x9 => lN ((fun _ => 0) x9))))) S hK hP bd_MD hS hA hz.symm ma_long rfl (za_long 1500) (by decide) (by decide) (Nat.le_of_ble_eq_true rfl) (Nat.le_of_ble_eq_true rfl) (Nat.le_of_ble_eq_true rfl) dX2_init_26 (fun g_5 H eg_5 hP _ hS _ => ?_)
  have hk_5 : g_5 k = .inr (2, [.ref (bd b0 N), .ref (bd b0 (N + 1)), .null, .null, .null, .null, .null, .null, .null, .long (lN 0), .int (nI 0), .int (nI 0), .int (nI 0), .int (nI 0)]) := ((congrFun eg_5 _).trans (va_up_ne _ _ (nkl hk 2))).trans hk_4
  have hN_5 : g_5 N = .inl (cy 2, 1500, .inr (.inl (fun x9 => lN ((fun _ => 0) x9)))) := ((congrFun eg_5 _).trans (va_up_ne _ _ (nab 0 2 rfl))).trans hN_4
  have hN___1_5 : g_5 (N + 1) = .inl (cy 2, 1500, .inr (.inl (fun x9 => lN ((fun _ => 0) x9)))) := ((congrFun eg_5 _).trans (va_up_ne _ _ (nab 1 2 rfl))).trans hN___1_4
  have hN___2_5 : g_5 (N + 2) = .inl (cy 2, 1500, .inr (.inl (fun x9 => lN ((fun _ => 0) x9)))) := by (rw [eg_5, va_up_self]) <;> exact rfl
  have hfr_5 : ∀ j : Nat, j < N → j ≠ k → g_5 j = g j := fun j a b => ((congrFun eg_5 _).trans (va_up_ne _ _ (nkl a 2))).trans (hfr_4 j a b)
  refine mpF S hnm hK hP bd_MD hS (by omega) hk_5 fd_X2_18 (fun r z => by cases z; rfl) rfl rfl (Nat.le_of_ble_eq_true rfl) dX2_init_28 (fun g_6 H locs eg_6 hP hS => ?_)
  have hk_6 : g_6 k = .inr (2, [.ref (bd b0 N), .ref (bd b0 (N + 1)), .ref (bd b0 (N + 2)), .null, .null, .null, .null, .null, .null, .long (lN 0), .int (nI 0), .int (nI 0), .int (nI 0), .int (nI 0)]) := by (rw [eg_6, va_up_self]) <;> exact rfl
  have hN_6 : g_6 N = .inl (cy 2, 1500, .inr (.inl (fun x9 => lN ((fun _ => 0) x9)))) := ((congrFun eg_6 _).trans (va_up_ne _ _ (nkr hk 0))).trans hN_5
  have hN___1_6 : g_6 (N + 1) = .inl (cy 2, 1500, .inr (.inl (fun x9 => lN ((fun _ => 0) x9)))) := ((congrFun eg_6 _).trans (va_up_ne _ _ (nkr hk 1))).trans hN___1_5
  have hN___2_6 : g_6 (N + 2) = .inl (cy 2, 1500, .inr (.inl (fun x9 => lN ((fun _ => 0) x9)))) := ((congrFun eg_6 _).trans (va_up_ne _ _ (nkr hk 2))).trans hN___2_5
  have hfr_6 : ∀ j : Nat, j < N → j ≠ k → g_6 j = g j := fun j a b => ((congrFun eg_6 _).trans (va_up_ne _ _ b)).trans (hfr_5 j a b)
  refine lv_aload_n hx hb dX2_init_31 rfl (lv_at hl 0 rfl) ?_
  refine lv_sipush (v := nI 1500) hx hb dX2_init_32 (by decide) ?_
  refine W_hz hz0 hP (by omega) (by omega) (fun hz => ?_)
  refine gnewa (atype := .int) (t := 1) (n0 := 1500) (a0 := (1500, .inl (fun x9 => nI ((fun _ => 0) x9)))) S hK hP bd_MD hS hA hz.symm ma_int rfl (za_int 1500) (by decide) (by decide) (Nat.le_of_ble_eq_true rfl) (Nat.le_of_ble_eq_true rfl) (Nat.le_of_ble_eq_true rfl) dX2_init_35 (fun g_7 H eg_7 hP _ hS _ => ?_)
  have hk_7 : g_7 k = .inr (2, [.ref (bd b0 N), .ref (bd b0 (N + 1)), .ref (bd b0 (N + 2)), .null, .null, .null, .null, .null, .null, .long (lN 0), .int (nI 0), .int (nI 0), .int (nI 0), .int (nI 0)]) := ((congrFun eg_7 _).trans (va_up_ne _ _ (nkl hk 3))).trans hk_6
  have hN_7 : g_7 N = .inl (cy 2, 1500, .inr (.inl (fun x9 => lN ((fun _ => 0) x9)))) := ((congrFun eg_7 _).trans (va_up_ne _ _ (nab 0 3 rfl))).trans hN_6
  have hN___1_7 : g_7 (N + 1) = .inl (cy 2, 1500, .inr (.inl (fun x9 => lN ((fun _ => 0) x9)))) := ((congrFun eg_7 _).trans (va_up_ne _ _ (nab 1 3 rfl))).trans hN___1_6
  have hN___2_7 : g_7 (N + 2) = .inl (cy 2, 1500, .inr (.inl (fun x9 => lN ((fun _ => 0) x9)))) := ((congrFun eg_7 _).trans (va_up_ne _ _ (nab 2 3 rfl))).trans hN___2_6
  have hN___3_7 : g_7 (N + 3) = .inl (cy 1, 1500, .inl (fun x9 => nI ((fun _ => 0) x9))) := by (rw [eg_7, va_up_self]) <;> exact rfl
  have hfr_7 : ∀ j : Nat, j < N → j ≠ k → g_7 j = g j := fun j a b => ((congrFun eg_7 _).trans (va_up_ne _ _ (nkl a 3))).trans (hfr_6 j a b)
  refine mpF S hnm hK hP bd_MD hS (by omega) hk_7 fd_X2_21 (fun r z => by cases z; rfl) rfl rfl (Nat.le_of_ble_eq_true rfl) dX2_init_37 (fun g_8 H locs eg_8 hP hS => ?_)
  have hk_8 : g_8 k = .inr (2, [.ref (bd b0 N), .ref (bd b0 (N + 1)), .ref (bd b0 (N + 2)), .ref (bd b0 (N + 3)), .null, .null, .null, .null, .null, .long (lN 0), .int (nI 0), .int (nI 0), .int (nI 0), .int (nI 0)]) := by (rw [eg_8, va_up_self]) <;> exact rfl
  have hN_8 : g_8 N = .inl (cy 2, 1500, .inr (.inl (fun x9 => lN ((fun _ => 0) x9)))) := ((congrFun eg_8 _).trans (va_up_ne _ _ (nkr hk 0))).trans hN_7
  have hN___1_8 : g_8 (N + 1) = .inl (cy 2, 1500, .inr (.inl (fun x9 => lN ((fun _ => 0) x9)))) := ((congrFun eg_8 _).trans (va_up_ne _ _ (nkr hk 1))).trans hN___1_7
  have hN___2_8 : g_8 (N + 2) = .inl (cy 2, 1500, .inr (.inl (fun x9 => lN ((fun _ => 0) x9)))) := ((congrFun eg_8 _).trans (va_up_ne _ _ (nkr hk 2))).trans hN___2_7
  have hN___3_8 : g_8 (N + 3) = .inl (cy 1, 1500, .inl (fun x9 => nI ((fun _ => 0) x9))) := ((congrFun eg_8 _).trans (va_up_ne _ _ (nkr hk 3))).trans hN___3_7
  have hfr_8 : ∀ j : Nat, j < N → j ≠ k → g_8 j = g j := fun j a b => ((congrFun eg_8 _).trans (va_up_ne _ _ b)).trans (hfr_7 j a b)
  refine lv_aload_n hx hb dX2_init_40 rfl (lv_at hl 0 rfl) ?_
  refine lv_sipush (v := nI 1500) hx hb dX2_init_41 (by decide) ?_
  refine W_hz hz0 hP (by omega) (by omega) (fun hz => ?_)
  refine gnewa (atype := .int) (t := 1) (n0 := 1500) (a0 := (1500, .inl (fun x9 => nI ((fun _ => 0) x9)))) S hK hP bd_MD hS hA hz.symm ma_int rfl (za_int 1500) (by decide) (by decide) (Nat.le_of_ble_eq_true rfl) (Nat.le_of_ble_eq_true rfl) (Nat.le_of_ble_eq_true rfl) dX2_init_44 (fun g_9 H eg_9 hP _ hS _ => ?_)
  have hk_9 : g_9 k = .inr (2, [.ref (bd b0 N), .ref (bd b0 (N + 1)), .ref (bd b0 (N + 2)), .ref (bd b0 (N + 3)), .null, .null, .null, .null, .null, .long (lN 0), .int (nI 0), .int (nI 0), .int (nI 0), .int (nI 0)]) := ((congrFun eg_9 _).trans (va_up_ne _ _ (nkl hk 4))).trans hk_8
  have hN_9 : g_9 N = .inl (cy 2, 1500, .inr (.inl (fun x9 => lN ((fun _ => 0) x9)))) := ((congrFun eg_9 _).trans (va_up_ne _ _ (nab 0 4 rfl))).trans hN_8
  have hN___1_9 : g_9 (N + 1) = .inl (cy 2, 1500, .inr (.inl (fun x9 => lN ((fun _ => 0) x9)))) := ((congrFun eg_9 _).trans (va_up_ne _ _ (nab 1 4 rfl))).trans hN___1_8
  have hN___2_9 : g_9 (N + 2) = .inl (cy 2, 1500, .inr (.inl (fun x9 => lN ((fun _ => 0) x9)))) := ((congrFun eg_9 _).trans (va_up_ne _ _ (nab 2 4 rfl))).trans hN___2_8
  have hN___3_9 : g_9 (N + 3) = .inl (cy 1, 1500, .inl (fun x9 => nI ((fun _ => 0) x9))) := ((congrFun eg_9 _).trans (va_up_ne _ _ (nab 3 4 rfl))).trans hN___3_8
  have hN___4_9 : g_9 (N + 4) = .inl (cy 1, 1500, .inl (fun x9 => nI ((fun _ => 0) x9))) := by (rw [eg_9, va_up_self]) <;> exact rfl
  have hfr_9 : ∀ j : Nat, j < N → j ≠ k → g_9 j = g j := fun j a b => ((congrFun eg_9 _).trans (va_up_ne _ _ (nkl a 4))).trans (hfr_8 j a b)
  refine mpF S hnm hK hP bd_MD hS (by omega) hk_9 fd_X2_25 (fun r z => by cases z; rfl) rfl rfl (Nat.le_of_ble_eq_true rfl) dX2_init_46 (fun g_10 H locs eg_10 hP hS => ?_)
  have hk_10 : g_10 k = .inr (2, [.ref (bd b0 N), .ref (bd b0 (N + 1)), .ref (bd b0 (N + 2)), .ref (bd b0 (N + 3)), .ref (bd b0 (N + 4)), .null, .null, .null, .null, .long (lN 0), .int (nI 0), .int (nI 0), .int (nI 0), .int (nI 0)]) := by (rw [eg_10, va_up_self]) <;> exact rfl
  have hN_10 : g_10 N = .inl (cy 2, 1500, .inr (.inl (fun x9 => lN ((fun _ => 0) x9)))) := ((congrFun eg_10 _).trans (va_up_ne _ _ (nkr hk 0))).trans hN_9
  have hN___1_10 : g_10 (N + 1) = .inl (cy 2, 1500, .inr (.inl (fun x9 => lN ((fun _ => 0) x9)))) := ((congrFun eg_10 _).trans (va_up_ne _ _ (nkr hk 1))).trans hN___1_9
  have hN___2_10 : g_10 (N + 2) = .inl (cy 2, 1500, .inr (.inl (fun x9 => lN ((fun _ => 0) x9)))) := ((congrFun eg_10 _).trans (va_up_ne _ _ (nkr hk 2))).trans hN___2_9
  have hN___3_10 : g_10 (N + 3) = .inl (cy 1, 1500, .inl (fun x9 => nI ((fun _ => 0) x9))) := ((congrFun eg_10 _).trans (va_up_ne _ _ (nkr hk 3))).trans hN___3_9
  have hN___4_10 : g_10 (N + 4) = .inl (cy 1, 1500, .inl (fun x9 => nI ((fun _ => 0) x9))) := ((congrFun eg_10 _).trans (va_up_ne _ _ (nkr hk 4))).trans hN___4_9
  have hfr_10 : ∀ j : Nat, j < N → j ≠ k → g_10 j = g j := fun j a b => ((congrFun eg_10 _).trans (va_up_ne _ _ b)).trans (hfr_9 j a b)
  refine lv_aload_n hx hb dX2_init_49 rfl (lv_at hl 0 rfl) ?_
  refine lv_sipush (v := nI 4096) hx hb dX2_init_50 (by decide) ?_
  refine W_hz hz0 hP (by omega) (by omega) (fun hz => ?_)
  refine gnewa (atype := .int) (t := 1) (n0 := 4096) (a0 := (4096, .inl (fun x9 => nI ((fun _ => 0) x9)))) S hK hP bd_MD hS hA hz.symm ma_int rfl (za_int 4096) (by decide) (by decide) (Nat.le_of_ble_eq_true rfl) (Nat.le_of_ble_eq_true rfl) (Nat.le_of_ble_eq_true rfl) dX2_init_53 (fun g_11 H eg_11 hP _ hS _ => ?_)
  have hk_11 : g_11 k = .inr (2, [.ref (bd b0 N), .ref (bd b0 (N + 1)), .ref (bd b0 (N + 2)), .ref (bd b0 (N + 3)), .ref (bd b0 (N + 4)), .null, .null, .null, .null, .long (lN 0), .int (nI 0), .int (nI 0), .int (nI 0), .int (nI 0)]) := ((congrFun eg_11 _).trans (va_up_ne _ _ (nkl hk 5))).trans hk_10
  have hN_11 : g_11 N = .inl (cy 2, 1500, .inr (.inl (fun x9 => lN ((fun _ => 0) x9)))) := ((congrFun eg_11 _).trans (va_up_ne _ _ (nab 0 5 rfl))).trans hN_10
  have hN___1_11 : g_11 (N + 1) = .inl (cy 2, 1500, .inr (.inl (fun x9 => lN ((fun _ => 0) x9)))) := ((congrFun eg_11 _).trans (va_up_ne _ _ (nab 1 5 rfl))).trans hN___1_10
  have hN___2_11 : g_11 (N + 2) = .inl (cy 2, 1500, .inr (.inl (fun x9 => lN ((fun _ => 0) x9)))) := ((congrFun eg_11 _).trans (va_up_ne _ _ (nab 2 5 rfl))).trans hN___2_10
  have hN___3_11 : g_11 (N + 3) = .inl (cy 1, 1500, .inl (fun x9 => nI ((fun _ => 0) x9))) := ((congrFun eg_11 _).trans (va_up_ne _ _ (nab 3 5 rfl))).trans hN___3_10
  have hN___4_11 : g_11 (N + 4) = .inl (cy 1, 1500, .inl (fun x9 => nI ((fun _ => 0) x9))) := ((congrFun eg_11 _).trans (va_up_ne _ _ (nab 4 5 rfl))).trans hN___4_10
  have hN___5_11 : g_11 (N + 5) = .inl (cy 1, 4096, .inl (fun x9 => nI ((fun _ => 0) x9))) := by (rw [eg_11, va_up_self]) <;> exact rfl
  have hfr_11 : ∀ j : Nat, j < N → j ≠ k → g_11 j = g j := fun j a b => ((congrFun eg_11 _).trans (va_up_ne _ _ (nkl a 5))).trans (hfr_10 j a b)
  refine mpF S hnm hK hP bd_MD hS (by omega) hk_11 fd_X2_28 (fun r z => by cases z; rfl) rfl rfl (Nat.le_of_ble_eq_true rfl) dX2_init_55 (fun g_12 H locs eg_12 hP hS => ?_)
  have hk_12 : g_12 k = .inr (2, [.ref (bd b0 N), .ref (bd b0 (N + 1)), .ref (bd b0 (N + 2)), .ref (bd b0 (N + 3)), .ref (bd b0 (N + 4)), .ref (bd b0 (N + 5)), .null, .null, .null, .long (lN 0), .int (nI 0), .int (nI 0), .int (nI 0), .int (nI 0)]) := by (rw [eg_12, va_up_self]) <;> exact rfl
  have hN_12 : g_12 N = .inl (cy 2, 1500, .inr (.inl (fun x9 => lN ((fun _ => 0) x9)))) := ((congrFun eg_12 _).trans (va_up_ne _ _ (nkr hk 0))).trans hN_11
  have hN___1_12 : g_12 (N + 1) = .inl (cy 2, 1500, .inr (.inl (fun x9 => lN ((fun _ => 0) x9)))) := ((congrFun eg_12 _).trans (va_up_ne _ _ (nkr hk 1))).trans hN___1_11
  have hN___2_12 : g_12 (N + 2) = .inl (cy 2, 1500, .inr (.inl (fun x9 => lN ((fun _ => 0) x9)))) := ((congrFun eg_12 _).trans (va_up_ne _ _ (nkr hk 2))).trans hN___2_11
  have hN___3_12 : g_12 (N + 3) = .inl (cy 1, 1500, .inl (fun x9 => nI ((fun _ => 0) x9))) := ((congrFun eg_12 _).trans (va_up_ne _ _ (nkr hk 3))).trans hN___3_11
  have hN___4_12 : g_12 (N + 4) = .inl (cy 1, 1500, .inl (fun x9 => nI ((fun _ => 0) x9))) := ((congrFun eg_12 _).trans (va_up_ne _ _ (nkr hk 4))).trans hN___4_11
  have hN___5_12 : g_12 (N + 5) = .inl (cy 1, 4096, .inl (fun x9 => nI ((fun _ => 0) x9))) := ((congrFun eg_12 _).trans (va_up_ne _ _ (nkr hk 5))).trans hN___5_11
  have hfr_12 : ∀ j : Nat, j < N → j ≠ k → g_12 j = g j := fun j a b => ((congrFun eg_12 _).trans (va_up_ne _ _ b)).trans (hfr_11 j a b)
  refine lv_aload_n hx hb dX2_init_58 rfl (lv_at hl 0 rfl) ?_
  refine W_hz hz0 hP (by omega) (by omega) (fun hz => ?_)
  refine gnew (ci := 8) (NF := 5) (C := RX8) (T := TX8) (ty := tyX8) (fs := [.int (nI 0), .long (lN 0), .int (nI 0), .int (nI 0), .long (lN 0)]) S hK hP bd_MD hS hA hz.symm rfl inlX8 tyX8_ok m_X2_31 mj_RX8 mn_RX8 (fun j hj => by rcases (show j = 0 ∨ j = 1 ∨ j = 2 ∨ j = 3 ∨ j = 4 by omega) with rfl | rfl | rfl | rfl | rfl <;> rfl) (Nat.le_of_ble_eq_true rfl) (Nat.le_of_ble_eq_true rfl) dX2_init_59 (fun g_13 H eg_13 hP _ hS _ => ?_)
  have hk_13 : g_13 k = .inr (2, [.ref (bd b0 N), .ref (bd b0 (N + 1)), .ref (bd b0 (N + 2)), .ref (bd b0 (N + 3)), .ref (bd b0 (N + 4)), .ref (bd b0 (N + 5)), .null, .null, .null, .long (lN 0), .int (nI 0), .int (nI 0), .int (nI 0), .int (nI 0)]) := ((congrFun eg_13 _).trans (va_up_ne _ _ (nkl hk 6))).trans hk_12
  have hN_13 : g_13 N = .inl (cy 2, 1500, .inr (.inl (fun x9 => lN ((fun _ => 0) x9)))) := ((congrFun eg_13 _).trans (va_up_ne _ _ (nab 0 6 rfl))).trans hN_12
  have hN___1_13 : g_13 (N + 1) = .inl (cy 2, 1500, .inr (.inl (fun x9 => lN ((fun _ => 0) x9)))) := ((congrFun eg_13 _).trans (va_up_ne _ _ (nab 1 6 rfl))).trans hN___1_12
  have hN___2_13 : g_13 (N + 2) = .inl (cy 2, 1500, .inr (.inl (fun x9 => lN ((fun _ => 0) x9)))) := ((congrFun eg_13 _).trans (va_up_ne _ _ (nab 2 6 rfl))).trans hN___2_12
  have hN___3_13 : g_13 (N + 3) = .inl (cy 1, 1500, .inl (fun x9 => nI ((fun _ => 0) x9))) := ((congrFun eg_13 _).trans (va_up_ne _ _ (nab 3 6 rfl))).trans hN___3_12
  have hN___4_13 : g_13 (N + 4) = .inl (cy 1, 1500, .inl (fun x9 => nI ((fun _ => 0) x9))) := ((congrFun eg_13 _).trans (va_up_ne _ _ (nab 4 6 rfl))).trans hN___4_12
  have hN___5_13 : g_13 (N + 5) = .inl (cy 1, 4096, .inl (fun x9 => nI ((fun _ => 0) x9))) := ((congrFun eg_13 _).trans (va_up_ne _ _ (nab 5 6 rfl))).trans hN___5_12
  have hN___6_13 : g_13 (N + 6) = .inr (8, [.int (nI 0), .long (lN 0), .int (nI 0), .int (nI 0), .long (lN 0)]) := by (rw [eg_13, va_up_self]) <;> exact rfl
  have hfr_13 : ∀ j : Nat, j < N → j ≠ k → g_13 j = g j := fun j a b => ((congrFun eg_13 _).trans (va_up_ne _ _ (nkl a 6))).trans (hfr_12 j a b)
  refine lv_dup hx hb dX2_init_62 rfl ?_
  refine W_hz hz0 hP (by omega) (by omega) (fun hz => ?_)
  refine kGI (As := []) (rest := [.ref (bd b0 (N + 6)), .ref (bd b0 k)]) S hK hN hz hP hS (c_X8_init l D cy b0 (N + 7) g_13 (N + 6) (by omega) hN___6_13) ci_X2_33 ⟨rfl, rfl⟩ rfl hl.1 rfl (Nat.le_of_ble_eq_true rfl) ⟨Nat.le_of_ble_eq_true rfl, Nat.le_of_ble_eq_true rfl⟩ dX2_init_63 (fun g_14 H locs q_14 _ hP hS => ?_)
  obtain ⟨x0_14, f_14⟩ := q_14
  have hk_14 : g_14 k = .inr (2, [.ref (bd b0 N), .ref (bd b0 (N + 1)), .ref (bd b0 (N + 2)), .ref (bd b0 (N + 3)), .ref (bd b0 (N + 4)), .ref (bd b0 (N + 5)), .null, .null, .null, .long (lN 0), .int (nI 0), .int (nI 0), .int (nI 0), .int (nI 0)]) := (f_14 k (lkn hk 7) (nkl hk 6)).trans hk_13
  have hN_14 : g_14 N = .inl (cy 2, 1500, .inr (.inl (fun x9 => lN ((fun _ => 0) x9)))) := (f_14 N (lab 0 7 rfl) (nab 0 6 rfl)).trans hN_13
  have hN___1_14 : g_14 (N + 1) = .inl (cy 2, 1500, .inr (.inl (fun x9 => lN ((fun _ => 0) x9)))) := (f_14 (N + 1) (lab 1 7 rfl) (nab 1 6 rfl)).trans hN___1_13
  have hN___2_14 : g_14 (N + 2) = .inl (cy 2, 1500, .inr (.inl (fun x9 => lN ((fun _ => 0) x9)))) := (f_14 (N + 2) (lab 2 7 rfl) (nab 2 6 rfl)).trans hN___2_13
  have hN___3_14 : g_14 (N + 3) = .inl (cy 1, 1500, .inl (fun x9 => nI ((fun _ => 0) x9))) := (f_14 (N + 3) (lab 3 7 rfl) (nab 3 6 rfl)).trans hN___3_13
  have hN___4_14 : g_14 (N + 4) = .inl (cy 1, 1500, .inl (fun x9 => nI ((fun _ => 0) x9))) := (f_14 (N + 4) (lab 4 7 rfl) (nab 4 6 rfl)).trans hN___4_13
  have hN___5_14 : g_14 (N + 5) = .inl (cy 1, 4096, .inl (fun x9 => nI ((fun _ => 0) x9))) := (f_14 (N + 5) (lab 5 7 rfl) (nab 5 6 rfl)).trans hN___5_13
  have hN___6_14 : g_14 (N + 6) = .inr (8, [.int (nI 5), .long (lN (sea (fun p => p) 5)), .int (nI (2 ^ 5 - 1)), .int (nI (2 ^ 5 - 1)), .long (lN 0)]) := x0_14
  have hfr_14 : ∀ j : Nat, j < N → j ≠ k → g_14 j = g j := fun j a b => (f_14 j (lkn a 7) (nkl a 6)).trans (hfr_13 j a b)
  refine mpF S hnm hK hP bd_MD hS (by omega) hk_14 fd_X2_34 (fun r z => by cases z; rfl) rfl rfl (Nat.le_of_ble_eq_true rfl) dX2_init_66 (fun g_15 H locs eg_15 hP hS => ?_)
  have hk_15 : g_15 k = .inr (2, [.ref (bd b0 N), .ref (bd b0 (N + 1)), .ref (bd b0 (N + 2)), .ref (bd b0 (N + 3)), .ref (bd b0 (N + 4)), .ref (bd b0 (N + 5)), .ref (bd b0 (N + 6)), .null, .null, .long (lN 0), .int (nI 0), .int (nI 0), .int (nI 0), .int (nI 0)]) := by (rw [eg_15, va_up_self]) <;> exact rfl
  have hN_15 : g_15 N = .inl (cy 2, 1500, .inr (.inl (fun x9 => lN ((fun _ => 0) x9)))) := ((congrFun eg_15 _).trans (va_up_ne _ _ (nkr hk 0))).trans hN_14
  have hN___1_15 : g_15 (N + 1) = .inl (cy 2, 1500, .inr (.inl (fun x9 => lN ((fun _ => 0) x9)))) := ((congrFun eg_15 _).trans (va_up_ne _ _ (nkr hk 1))).trans hN___1_14
  have hN___2_15 : g_15 (N + 2) = .inl (cy 2, 1500, .inr (.inl (fun x9 => lN ((fun _ => 0) x9)))) := ((congrFun eg_15 _).trans (va_up_ne _ _ (nkr hk 2))).trans hN___2_14
  have hN___3_15 : g_15 (N + 3) = .inl (cy 1, 1500, .inl (fun x9 => nI ((fun _ => 0) x9))) := ((congrFun eg_15 _).trans (va_up_ne _ _ (nkr hk 3))).trans hN___3_14
  have hN___4_15 : g_15 (N + 4) = .inl (cy 1, 1500, .inl (fun x9 => nI ((fun _ => 0) x9))) := ((congrFun eg_15 _).trans (va_up_ne _ _ (nkr hk 4))).trans hN___4_14
  have hN___5_15 : g_15 (N + 5) = .inl (cy 1, 4096, .inl (fun x9 => nI ((fun _ => 0) x9))) := ((congrFun eg_15 _).trans (va_up_ne _ _ (nkr hk 5))).trans hN___5_14
  have hN___6_15 : g_15 (N + 6) = .inr (8, [.int (nI 5), .long (lN (sea (fun p => p) 5)), .int (nI (2 ^ 5 - 1)), .int (nI (2 ^ 5 - 1)), .long (lN 0)]) := ((congrFun eg_15 _).trans (va_up_ne _ _ (nkr hk 6))).trans hN___6_14
  have hfr_15 : ∀ j : Nat, j < N → j ≠ k → g_15 j = g j := fun j a b => ((congrFun eg_15 _).trans (va_up_ne _ _ b)).trans (hfr_14 j a b)
  refine lv_aload_n hx hb dX2_init_69 rfl (lv_at hl 0 rfl) ?_
  refine W_hz hz0 hP (by omega) (by omega) (fun hz => ?_)
  refine gnew (ci := 8) (NF := 5) (C := RX8) (T := TX8) (ty := tyX8) (fs := [.int (nI 0), .long (lN 0), .int (nI 0), .int (nI 0), .long (lN 0)]) S hK hP bd_MD hS hA hz.symm rfl inlX8 tyX8_ok m_X2_31 mj_RX8 mn_RX8 (fun j hj => by rcases (show j = 0 ∨ j = 1 ∨ j = 2 ∨ j = 3 ∨ j = 4 by omega) with rfl | rfl | rfl | rfl | rfl <;> rfl) (Nat.le_of_ble_eq_true rfl) (Nat.le_of_ble_eq_true rfl) dX2_init_70 (fun g_16 H eg_16 hP _ hS _ => ?_)
  have hk_16 : g_16 k = .inr (2, [.ref (bd b0 N), .ref (bd b0 (N + 1)), .ref (bd b0 (N + 2)), .ref (bd b0 (N + 3)), .ref (bd b0 (N + 4)), .ref (bd b0 (N + 5)), .ref (bd b0 (N + 6)), .null, .null, .long (lN 0), .int (nI 0), .int (nI 0), .int (nI 0), .int (nI 0)]) := ((congrFun eg_16 _).trans (va_up_ne _ _ (nkl hk 7))).trans hk_15
  have hN_16 : g_16 N = .inl (cy 2, 1500, .inr (.inl (fun x9 => lN ((fun _ => 0) x9)))) := ((congrFun eg_16 _).trans (va_up_ne _ _ (nab 0 7 rfl))).trans hN_15
  have hN___1_16 : g_16 (N + 1) = .inl (cy 2, 1500, .inr (.inl (fun x9 => lN ((fun _ => 0) x9)))) := ((congrFun eg_16 _).trans (va_up_ne _ _ (nab 1 7 rfl))).trans hN___1_15
  have hN___2_16 : g_16 (N + 2) = .inl (cy 2, 1500, .inr (.inl (fun x9 => lN ((fun _ => 0) x9)))) := ((congrFun eg_16 _).trans (va_up_ne _ _ (nab 2 7 rfl))).trans hN___2_15
  have hN___3_16 : g_16 (N + 3) = .inl (cy 1, 1500, .inl (fun x9 => nI ((fun _ => 0) x9))) := ((congrFun eg_16 _).trans (va_up_ne _ _ (nab 3 7 rfl))).trans hN___3_15
  have hN___4_16 : g_16 (N + 4) = .inl (cy 1, 1500, .inl (fun x9 => nI ((fun _ => 0) x9))) := ((congrFun eg_16 _).trans (va_up_ne _ _ (nab 4 7 rfl))).trans hN___4_15
  have hN___5_16 : g_16 (N + 5) = .inl (cy 1, 4096, .inl (fun x9 => nI ((fun _ => 0) x9))) := ((congrFun eg_16 _).trans (va_up_ne _ _ (nab 5 7 rfl))).trans hN___5_15
  have hN___6_16 : g_16 (N + 6) = .inr (8, [.int (nI 5), .long (lN (sea (fun p => p) 5)), .int (nI (2 ^ 5 - 1)), .int (nI (2 ^ 5 - 1)), .long (lN 0)]) := ((congrFun eg_16 _).trans (va_up_ne _ _ (nab 6 7 rfl))).trans hN___6_15
  have hN___7_16 : g_16 (N + 7) = .inr (8, [.int (nI 0), .long (lN 0), .int (nI 0), .int (nI 0), .long (lN 0)]) := by (rw [eg_16, va_up_self]) <;> exact rfl
  have hfr_16 : ∀ j : Nat, j < N → j ≠ k → g_16 j = g j := fun j a b => ((congrFun eg_16 _).trans (va_up_ne _ _ (nkl a 7))).trans (hfr_15 j a b)
  refine lv_dup hx hb dX2_init_73 rfl ?_
  refine W_hz hz0 hP (by omega) (by omega) (fun hz => ?_)
  refine kGI (As := []) (rest := [.ref (bd b0 (N + 7)), .ref (bd b0 k)]) S hK hN hz hP hS (c_X8_init l D cy b0 (N + 8) g_16 (N + 7) (by omega) hN___7_16) ci_X2_33 ⟨rfl, rfl⟩ rfl hl.1 rfl (Nat.le_of_ble_eq_true rfl) ⟨Nat.le_of_ble_eq_true rfl, Nat.le_of_ble_eq_true rfl⟩ dX2_init_74 (fun g_17 H locs q_17 _ hP hS => ?_)
  obtain ⟨x0_17, f_17⟩ := q_17
  have hk_17 : g_17 k = .inr (2, [.ref (bd b0 N), .ref (bd b0 (N + 1)), .ref (bd b0 (N + 2)), .ref (bd b0 (N + 3)), .ref (bd b0 (N + 4)), .ref (bd b0 (N + 5)), .ref (bd b0 (N + 6)), .null, .null, .long (lN 0), .int (nI 0), .int (nI 0), .int (nI 0), .int (nI 0)]) := (f_17 k (lkn hk 8) (nkl hk 7)).trans hk_16
  have hN_17 : g_17 N = .inl (cy 2, 1500, .inr (.inl (fun x9 => lN ((fun _ => 0) x9)))) := (f_17 N (lab 0 8 rfl) (nab 0 7 rfl)).trans hN_16
  have hN___1_17 : g_17 (N + 1) = .inl (cy 2, 1500, .inr (.inl (fun x9 => lN ((fun _ => 0) x9)))) := (f_17 (N + 1) (lab 1 8 rfl) (nab 1 7 rfl)).trans hN___1_16
  have hN___2_17 : g_17 (N + 2) = .inl (cy 2, 1500, .inr (.inl (fun x9 => lN ((fun _ => 0) x9)))) := (f_17 (N + 2) (lab 2 8 rfl) (nab 2 7 rfl)).trans hN___2_16
  have hN___3_17 : g_17 (N + 3) = .inl (cy 1, 1500, .inl (fun x9 => nI ((fun _ => 0) x9))) := (f_17 (N + 3) (lab 3 8 rfl) (nab 3 7 rfl)).trans hN___3_16
  have hN___4_17 : g_17 (N + 4) = .inl (cy 1, 1500, .inl (fun x9 => nI ((fun _ => 0) x9))) := (f_17 (N + 4) (lab 4 8 rfl) (nab 4 7 rfl)).trans hN___4_16
  have hN___5_17 : g_17 (N + 5) = .inl (cy 1, 4096, .inl (fun x9 => nI ((fun _ => 0) x9))) := (f_17 (N + 5) (lab 5 8 rfl) (nab 5 7 rfl)).trans hN___5_16
  have hN___6_17 : g_17 (N + 6) = .inr (8, [.int (nI 5), .long (lN (sea (fun p => p) 5)), .int (nI (2 ^ 5 - 1)), .int (nI (2 ^ 5 - 1)), .long (lN 0)]) := (f_17 (N + 6) (lab 6 8 rfl) (nab 6 7 rfl)).trans hN___6_16
  have hN___7_17 : g_17 (N + 7) = .inr (8, [.int (nI 5), .long (lN (sea (fun p => p) 5)), .int (nI (2 ^ 5 - 1)), .int (nI (2 ^ 5 - 1)), .long (lN 0)]) := x0_17
  have hfr_17 : ∀ j : Nat, j < N → j ≠ k → g_17 j = g j := fun j a b => (f_17 j (lkn a 8) (nkl a 7)).trans (hfr_16 j a b)
  refine mpF S hnm hK hP bd_MD hS (by omega) hk_17 fd_X2_38 (fun r z => by cases z; rfl) rfl rfl (Nat.le_of_ble_eq_true rfl) dX2_init_77 (fun g_18 H locs eg_18 hP hS => ?_)
  have hk_18 : g_18 k = .inr (2, [.ref (bd b0 N), .ref (bd b0 (N + 1)), .ref (bd b0 (N + 2)), .ref (bd b0 (N + 3)), .ref (bd b0 (N + 4)), .ref (bd b0 (N + 5)), .ref (bd b0 (N + 6)), .ref (bd b0 (N + 7)), .null, .long (lN 0), .int (nI 0), .int (nI 0), .int (nI 0), .int (nI 0)]) := by (rw [eg_18, va_up_self]) <;> exact rfl
  have hN_18 : g_18 N = .inl (cy 2, 1500, .inr (.inl (fun x9 => lN ((fun _ => 0) x9)))) := ((congrFun eg_18 _).trans (va_up_ne _ _ (nkr hk 0))).trans hN_17
  have hN___1_18 : g_18 (N + 1) = .inl (cy 2, 1500, .inr (.inl (fun x9 => lN ((fun _ => 0) x9)))) := ((congrFun eg_18 _).trans (va_up_ne _ _ (nkr hk 1))).trans hN___1_17
  have hN___2_18 : g_18 (N + 2) = .inl (cy 2, 1500, .inr (.inl (fun x9 => lN ((fun _ => 0) x9)))) := ((congrFun eg_18 _).trans (va_up_ne _ _ (nkr hk 2))).trans hN___2_17
  have hN___3_18 : g_18 (N + 3) = .inl (cy 1, 1500, .inl (fun x9 => nI ((fun _ => 0) x9))) := ((congrFun eg_18 _).trans (va_up_ne _ _ (nkr hk 3))).trans hN___3_17
  have hN___4_18 : g_18 (N + 4) = .inl (cy 1, 1500, .inl (fun x9 => nI ((fun _ => 0) x9))) := ((congrFun eg_18 _).trans (va_up_ne _ _ (nkr hk 4))).trans hN___4_17
  have hN___5_18 : g_18 (N + 5) = .inl (cy 1, 4096, .inl (fun x9 => nI ((fun _ => 0) x9))) := ((congrFun eg_18 _).trans (va_up_ne _ _ (nkr hk 5))).trans hN___5_17
  have hN___6_18 : g_18 (N + 6) = .inr (8, [.int (nI 5), .long (lN (sea (fun p => p) 5)), .int (nI (2 ^ 5 - 1)), .int (nI (2 ^ 5 - 1)), .long (lN 0)]) := ((congrFun eg_18 _).trans (va_up_ne _ _ (nkr hk 6))).trans hN___6_17
  have hN___7_18 : g_18 (N + 7) = .inr (8, [.int (nI 5), .long (lN (sea (fun p => p) 5)), .int (nI (2 ^ 5 - 1)), .int (nI (2 ^ 5 - 1)), .long (lN 0)]) := ((congrFun eg_18 _).trans (va_up_ne _ _ (nkr hk 7))).trans hN___7_17
  have hfr_18 : ∀ j : Nat, j < N → j ≠ k → g_18 j = g j := fun j a b => ((congrFun eg_18 _).trans (va_up_ne _ _ b)).trans (hfr_17 j a b)
  refine lv_aload_n hx hb dX2_init_80 rfl (lv_at hl 0 rfl) ?_
  refine W_hz hz0 hP (by omega) (by omega) (fun hz => ?_)
  refine gnew (ci := 8) (NF := 5) (C := RX8) (T := TX8) (ty := tyX8) (fs := [.int (nI 0), .long (lN 0), .int (nI 0), .int (nI 0), .long (lN 0)]) S hK hP bd_MD hS hA hz.symm rfl inlX8 tyX8_ok m_X2_31 mj_RX8 mn_RX8 (fun j hj => by rcases (show j = 0 ∨ j = 1 ∨ j = 2 ∨ j = 3 ∨ j = 4 by omega) with rfl | rfl | rfl | rfl | rfl <;> rfl) (Nat.le_of_ble_eq_true rfl) (Nat.le_of_ble_eq_true rfl) dX2_init_81 (fun g_19 H eg_19 hP _ hS _ => ?_)
  have hk_19 : g_19 k = .inr (2, [.ref (bd b0 N), .ref (bd b0 (N + 1)), .ref (bd b0 (N + 2)), .ref (bd b0 (N + 3)), .ref (bd b0 (N + 4)), .ref (bd b0 (N + 5)), .ref (bd b0 (N + 6)), .ref (bd b0 (N + 7)), .null, .long (lN 0), .int (nI 0), .int (nI 0), .int (nI 0), .int (nI 0)]) := ((congrFun eg_19 _).trans (va_up_ne _ _ (nkl hk 8))).trans hk_18
  have hN_19 : g_19 N = .inl (cy 2, 1500, .inr (.inl (fun x9 => lN ((fun _ => 0) x9)))) := ((congrFun eg_19 _).trans (va_up_ne _ _ (nab 0 8 rfl))).trans hN_18
  have hN___1_19 : g_19 (N + 1) = .inl (cy 2, 1500, .inr (.inl (fun x9 => lN ((fun _ => 0) x9)))) := ((congrFun eg_19 _).trans (va_up_ne _ _ (nab 1 8 rfl))).trans hN___1_18
  have hN___2_19 : g_19 (N + 2) = .inl (cy 2, 1500, .inr (.inl (fun x9 => lN ((fun _ => 0) x9)))) := ((congrFun eg_19 _).trans (va_up_ne _ _ (nab 2 8 rfl))).trans hN___2_18
  have hN___3_19 : g_19 (N + 3) = .inl (cy 1, 1500, .inl (fun x9 => nI ((fun _ => 0) x9))) := ((congrFun eg_19 _).trans (va_up_ne _ _ (nab 3 8 rfl))).trans hN___3_18
  have hN___4_19 : g_19 (N + 4) = .inl (cy 1, 1500, .inl (fun x9 => nI ((fun _ => 0) x9))) := ((congrFun eg_19 _).trans (va_up_ne _ _ (nab 4 8 rfl))).trans hN___4_18
  have hN___5_19 : g_19 (N + 5) = .inl (cy 1, 4096, .inl (fun x9 => nI ((fun _ => 0) x9))) := ((congrFun eg_19 _).trans (va_up_ne _ _ (nab 5 8 rfl))).trans hN___5_18
  have hN___6_19 : g_19 (N + 6) = .inr (8, [.int (nI 5), .long (lN (sea (fun p => p) 5)), .int (nI (2 ^ 5 - 1)), .int (nI (2 ^ 5 - 1)), .long (lN 0)]) := ((congrFun eg_19 _).trans (va_up_ne _ _ (nab 6 8 rfl))).trans hN___6_18
  have hN___7_19 : g_19 (N + 7) = .inr (8, [.int (nI 5), .long (lN (sea (fun p => p) 5)), .int (nI (2 ^ 5 - 1)), .int (nI (2 ^ 5 - 1)), .long (lN 0)]) := ((congrFun eg_19 _).trans (va_up_ne _ _ (nab 7 8 rfl))).trans hN___7_18
  have hN___8_19 : g_19 (N + 8) = .inr (8, [.int (nI 0), .long (lN 0), .int (nI 0), .int (nI 0), .long (lN 0)]) := by (rw [eg_19, va_up_self]) <;> exact rfl
  have hfr_19 : ∀ j : Nat, j < N → j ≠ k → g_19 j = g j := fun j a b => ((congrFun eg_19 _).trans (va_up_ne _ _ (nkl a 8))).trans (hfr_18 j a b)
  refine lv_dup hx hb dX2_init_84 rfl ?_
  refine W_hz hz0 hP (by omega) (by omega) (fun hz => ?_)
  refine kGI (As := []) (rest := [.ref (bd b0 (N + 8)), .ref (bd b0 k)]) S hK hN hz hP hS (c_X8_init l D cy b0 (N + 9) g_19 (N + 8) (by omega) hN___8_19) ci_X2_33 ⟨rfl, rfl⟩ rfl hl.1 rfl (Nat.le_of_ble_eq_true rfl) ⟨Nat.le_of_ble_eq_true rfl, Nat.le_of_ble_eq_true rfl⟩ dX2_init_85 (fun g_20 H locs q_20 _ hP hS => ?_)
  obtain ⟨x0_20, f_20⟩ := q_20
  have hk_20 : g_20 k = .inr (2, [.ref (bd b0 N), .ref (bd b0 (N + 1)), .ref (bd b0 (N + 2)), .ref (bd b0 (N + 3)), .ref (bd b0 (N + 4)), .ref (bd b0 (N + 5)), .ref (bd b0 (N + 6)), .ref (bd b0 (N + 7)), .null, .long (lN 0), .int (nI 0), .int (nI 0), .int (nI 0), .int (nI 0)]) := (f_20 k (lkn hk 9) (nkl hk 8)).trans hk_19
  have hN_20 : g_20 N = .inl (cy 2, 1500, .inr (.inl (fun x9 => lN ((fun _ => 0) x9)))) := (f_20 N (lab 0 9 rfl) (nab 0 8 rfl)).trans hN_19
  have hN___1_20 : g_20 (N + 1) = .inl (cy 2, 1500, .inr (.inl (fun x9 => lN ((fun _ => 0) x9)))) := (f_20 (N + 1) (lab 1 9 rfl) (nab 1 8 rfl)).trans hN___1_19
  have hN___2_20 : g_20 (N + 2) = .inl (cy 2, 1500, .inr (.inl (fun x9 => lN ((fun _ => 0) x9)))) := (f_20 (N + 2) (lab 2 9 rfl) (nab 2 8 rfl)).trans hN___2_19
  have hN___3_20 : g_20 (N + 3) = .inl (cy 1, 1500, .inl (fun x9 => nI ((fun _ => 0) x9))) := (f_20 (N + 3) (lab 3 9 rfl) (nab 3 8 rfl)).trans hN___3_19
  have hN___4_20 : g_20 (N + 4) = .inl (cy 1, 1500, .inl (fun x9 => nI ((fun _ => 0) x9))) := (f_20 (N + 4) (lab 4 9 rfl) (nab 4 8 rfl)).trans hN___4_19
  have hN___5_20 : g_20 (N + 5) = .inl (cy 1, 4096, .inl (fun x9 => nI ((fun _ => 0) x9))) := (f_20 (N + 5) (lab 5 9 rfl) (nab 5 8 rfl)).trans hN___5_19
  have hN___6_20 : g_20 (N + 6) = .inr (8, [.int (nI 5), .long (lN (sea (fun p => p) 5)), .int (nI (2 ^ 5 - 1)), .int (nI (2 ^ 5 - 1)), .long (lN 0)]) := (f_20 (N + 6) (lab 6 9 rfl) (nab 6 8 rfl)).trans hN___6_19
  have hN___7_20 : g_20 (N + 7) = .inr (8, [.int (nI 5), .long (lN (sea (fun p => p) 5)), .int (nI (2 ^ 5 - 1)), .int (nI (2 ^ 5 - 1)), .long (lN 0)]) := (f_20 (N + 7) (lab 7 9 rfl) (nab 7 8 rfl)).trans hN___7_19
  have hN___8_20 : g_20 (N + 8) = .inr (8, [.int (nI 5), .long (lN (sea (fun p => p) 5)), .int (nI (2 ^ 5 - 1)), .int (nI (2 ^ 5 - 1)), .long (lN 0)]) := x0_20
  have hfr_20 : ∀ j : Nat, j < N → j ≠ k → g_20 j = g j := fun j a b => (f_20 j (lkn a 9) (nkl a 8)).trans (hfr_19 j a b)
  refine mpF S hnm hK hP bd_MD hS (by omega) hk_20 fd_X2_41 (fun r z => by cases z; rfl) rfl rfl (Nat.le_of_ble_eq_true rfl) dX2_init_88 (fun g_21 H locs eg_21 hP hS => ?_)
  have hk_21 : g_21 k = .inr (2, [.ref (bd b0 N), .ref (bd b0 (N + 1)), .ref (bd b0 (N + 2)), .ref (bd b0 (N + 3)), .ref (bd b0 (N + 4)), .ref (bd b0 (N + 5)), .ref (bd b0 (N + 6)), .ref (bd b0 (N + 7)), .ref (bd b0 (N + 8)), .long (lN 0), .int (nI 0), .int (nI 0), .int (nI 0), .int (nI 0)]) := by (rw [eg_21, va_up_self]) <;> exact rfl
  have hN_21 : g_21 N = .inl (cy 2, 1500, .inr (.inl (fun x9 => lN ((fun _ => 0) x9)))) := ((congrFun eg_21 _).trans (va_up_ne _ _ (nkr hk 0))).trans hN_20
  have hN___1_21 : g_21 (N + 1) = .inl (cy 2, 1500, .inr (.inl (fun x9 => lN ((fun _ => 0) x9)))) := ((congrFun eg_21 _).trans (va_up_ne _ _ (nkr hk 1))).trans hN___1_20
  have hN___2_21 : g_21 (N + 2) = .inl (cy 2, 1500, .inr (.inl (fun x9 => lN ((fun _ => 0) x9)))) := ((congrFun eg_21 _).trans (va_up_ne _ _ (nkr hk 2))).trans hN___2_20
  have hN___3_21 : g_21 (N + 3) = .inl (cy 1, 1500, .inl (fun x9 => nI ((fun _ => 0) x9))) := ((congrFun eg_21 _).trans (va_up_ne _ _ (nkr hk 3))).trans hN___3_20
  have hN___4_21 : g_21 (N + 4) = .inl (cy 1, 1500, .inl (fun x9 => nI ((fun _ => 0) x9))) := ((congrFun eg_21 _).trans (va_up_ne _ _ (nkr hk 4))).trans hN___4_20
  have hN___5_21 : g_21 (N + 5) = .inl (cy 1, 4096, .inl (fun x9 => nI ((fun _ => 0) x9))) := ((congrFun eg_21 _).trans (va_up_ne _ _ (nkr hk 5))).trans hN___5_20
  have hN___6_21 : g_21 (N + 6) = .inr (8, [.int (nI 5), .long (lN (sea (fun p => p) 5)), .int (nI (2 ^ 5 - 1)), .int (nI (2 ^ 5 - 1)), .long (lN 0)]) := ((congrFun eg_21 _).trans (va_up_ne _ _ (nkr hk 6))).trans hN___6_20
  have hN___7_21 : g_21 (N + 7) = .inr (8, [.int (nI 5), .long (lN (sea (fun p => p) 5)), .int (nI (2 ^ 5 - 1)), .int (nI (2 ^ 5 - 1)), .long (lN 0)]) := ((congrFun eg_21 _).trans (va_up_ne _ _ (nkr hk 7))).trans hN___7_20
  have hN___8_21 : g_21 (N + 8) = .inr (8, [.int (nI 5), .long (lN (sea (fun p => p) 5)), .int (nI (2 ^ 5 - 1)), .int (nI (2 ^ 5 - 1)), .long (lN 0)]) := ((congrFun eg_21 _).trans (va_up_ne _ _ (nkr hk 8))).trans hN___8_20
  have hfr_21 : ∀ j : Nat, j < N → j ≠ k → g_21 j = g j := fun j a b => ((congrFun eg_21 _).trans (va_up_ne _ _ b)).trans (hfr_20 j a b)
  refine W_hz hz0 hP (by omega) (by omega) (fun hz => ?_)
  exact rGv S hr hlk hz hP hS ⟨hk_21, hN_21, hN___1_21, hN___2_21, hN___3_21, hN___4_21, hN___5_21, hN___6_21, hN___7_21, hN___8_21, hfr_21⟩ (Nat.le_of_ble_eq_true rfl) (Nat.le_of_ble_eq_true rfl) dX2_init_91


set_option maxHeartbeats 4000000 in
set_option maxRecDepth 100000 in
theorem c_X0_init (l : Launch) (D : va_G) (cy : Nat → ClassId) (b0 N : Nat) (g : Nat → va_E) (k : Nat) (hk : k < N) (hg : g k = .inr (0, [.null, .int (nI 0)])) : Met l yX0_init (WS yX0_init cX0_init 1 none) (rmG 1 1 200 13) (PG [.ref (bd b0 k)] D cy b0 N g) (QG (fun g1 => g1 k = .inr (0, [.ref (bd b0 N), .int (nI 0)]) ∧ g1 N = .inl (cy 0, 200, .inl (fun x9 => nI ((fun _ => 0) x9))) ∧ ∀ j, j < N → j ≠ k → g1 j = g j) D b0 (N + 1)) 1 200 (AB b0) := by
  refine gentry (by decide) (Nat.le_of_ble_eq_true rfl) (fun p e s m below meth c ls S hr hlk hnm hz0 hP hK hN hl => ?_)
  have S : CallFix p m c cX0_init 1 s _ wsL_law RX0 := S
  have hx := S.1
  have hb := S.2.1
  have hl : lv_has ls 1 [(0, .ref (bd b0 k))] := hl
  have hS : va_S (AB b0) s.heap s.heap [] := va_S.rf
  have hA : ∀ q, s.heap.size ≤ q → AB b0 q := fun q h => by show b0 ≤ q; omega
  have hfr : ∀ j : Nat, j < N → j ≠ k → g j = g j := fun _ _ _ => rfl
  refine lv_aload_n hx hb dX0_init_0 rfl (lv_at hl 0 rfl) ?_
  refine W.objInit hx hb S.2.2.2.1 (S.2.2.2.2 _ m_X0_3) (S.2.2.2.2 _ mi_objectInit) (S.2.2.2.2 _ mc_objectInit) rfl (hl.1.trans S.2.2.1.symm) rfl dX0_init_1 (Nat.le_of_ble_eq_true rfl) (Nat.le_of_ble_eq_true rfl) ?_
  refine W.eq (g2 := F0 m 4 ls []) rfl ?_
  refine lv_aload_n hx hb dX0_init_4 rfl (lv_at hl 0 rfl) ?_
  refine lv_sipush (v := nI 200) hx hb dX0_init_5 (by decide) ?_
  refine W_hz hz0 hP (by omega) (by omega) (fun hz => ?_)
  refine gnewa (atype := .byte) (t := 0) (n0 := 200) (a0 := (200, .inl (fun x9 => nI ((fun _ => 0) x9)))) S hK hP bd_MD hS hA hz.symm ma_byte rfl (za_byte 200) (by decide) (by decide) (Nat.le_of_ble_eq_true rfl) (Nat.le_of_ble_eq_true rfl) (Nat.le_of_ble_eq_true rfl) dX0_init_8 (fun g_1 H eg_1 hP _ hS _ => ?_)
  have hk_1 : g_1 k = .inr (0, [.null, .int (nI 0)]) := ((congrFun eg_1 _).trans (va_up_ne _ _ (nkl hk 0))).trans hg
  have hN_1 : g_1 N = .inl (cy 0, 200, .inl (fun x9 => nI ((fun _ => 0) x9))) := by (rw [eg_1, va_up_self]) <;> exact rfl
  have hfr_1 : ∀ j : Nat, j < N → j ≠ k → g_1 j = g j := fun j a b => ((congrFun eg_1 _).trans (va_up_ne _ _ (nkl a 0))).trans (hfr j a b)
  refine mpF S hnm hK hP bd_MD hS (by omega) hk_1 fd_X0_9 (fun r z => by cases z; rfl) rfl rfl (Nat.le_of_ble_eq_true rfl) dX0_init_10 (fun g_2 H locs eg_2 hP hS => ?_)
  have hk_2 : g_2 k = .inr (0, [.ref (bd b0 N), .int (nI 0)]) := by (rw [eg_2, va_up_self]) <;> exact rfl
  have hN_2 : g_2 N = .inl (cy 0, 200, .inl (fun x9 => nI ((fun _ => 0) x9))) := ((congrFun eg_2 _).trans (va_up_ne _ _ (nkr hk 0))).trans hN_1
  have hfr_2 : ∀ j : Nat, j < N → j ≠ k → g_2 j = g j := fun j a b => ((congrFun eg_2 _).trans (va_up_ne _ _ b)).trans (hfr_1 j a b)
  refine W_hz hz0 hP (by omega) (by omega) (fun hz => ?_)
  exact rGv S hr hlk hz hP hS ⟨hk_2, hN_2, hfr_2⟩ (Nat.le_of_ble_eq_true rfl) (Nat.le_of_ble_eq_true rfl) dX0_init_13
set_option maxHeartbeats 4000000 in
set_option maxRecDepth 100000 in
theorem c_X5_init (l : Launch) (D : va_G) (cy : Nat → ClassId) (b0 N : Nat) (g : Nat → va_E) (k : Nat) (hk : k < N) (hg : g k = .inr (5, [.null, .int (nI 0), .int (nI 0), .int (nI 0), .int (nI 0), .int (nI 0)])) : Met l yX5_init (WS yX5_init cX5_init 1 none) (rmG 1 1 160 13) (PG [.ref (bd b0 k)] D cy b0 N g) (QG (fun g1 => g1 k = .inr (5, [.ref (bd b0 N), .int (nI 0), .int (nI 0), .int (nI 0), .int (nI 0), .int (nI 0)]) ∧ g1 N = .inl (cy 0, 160, .inl (fun x9 => nI ((fun _ => 0) x9))) ∧ ∀ j, j < N → j ≠ k → g1 j = g j) D b0 (N + 1)) 1 160 (AB b0) := by
  refine gentry (by decide) (Nat.le_of_ble_eq_true rfl) (fun p e s m below meth c ls S hr hlk hnm hz0 hP hK hN hl => ?_)
  have S : CallFix p m c cX5_init 1 s _ wsL_law RX5 := S
  have hx := S.1
  have hb := S.2.1
  have hl : lv_has ls 1 [(0, .ref (bd b0 k))] := hl
  have hS : va_S (AB b0) s.heap s.heap [] := va_S.rf
  have hA : ∀ q, s.heap.size ≤ q → AB b0 q := fun q h => by show b0 ≤ q; omega
  have hfr : ∀ j : Nat, j < N → j ≠ k → g j = g j := fun _ _ _ => rfl
  refine lv_aload_n hx hb dX5_init_0 rfl (lv_at hl 0 rfl) ?_
  refine W.objInit hx hb S.2.2.2.1 (S.2.2.2.2 _ m_X5_3) (S.2.2.2.2 _ mi_objectInit) (S.2.2.2.2 _ mc_objectInit) rfl (hl.1.trans S.2.2.1.symm) rfl dX5_init_1 (Nat.le_of_ble_eq_true rfl) (Nat.le_of_ble_eq_true rfl) ?_
  refine W.eq (g2 := F0 m 4 ls []) rfl ?_
  refine lv_aload_n hx hb dX5_init_4 rfl (lv_at hl 0 rfl) ?_
  refine lv_sipush (v := nI 160) hx hb dX5_init_5 (by decide) ?_
  refine W_hz hz0 hP (by omega) (by omega) (fun hz => ?_)
  refine gnewa (atype := .byte) (t := 0) (n0 := 160) (a0 := (160, .inl (fun x9 => nI ((fun _ => 0) x9)))) S hK hP bd_MD hS hA hz.symm ma_byte rfl (za_byte 160) (by decide) (by decide) (Nat.le_of_ble_eq_true rfl) (Nat.le_of_ble_eq_true rfl) (Nat.le_of_ble_eq_true rfl) dX5_init_8 (fun g_1 H eg_1 hP _ hS _ => ?_)
  have hk_1 : g_1 k = .inr (5, [.null, .int (nI 0), .int (nI 0), .int (nI 0), .int (nI 0), .int (nI 0)]) := ((congrFun eg_1 _).trans (va_up_ne _ _ (nkl hk 0))).trans hg
  have hN_1 : g_1 N = .inl (cy 0, 160, .inl (fun x9 => nI ((fun _ => 0) x9))) := by (rw [eg_1, va_up_self]) <;> exact rfl
  have hfr_1 : ∀ j : Nat, j < N → j ≠ k → g_1 j = g j := fun j a b => ((congrFun eg_1 _).trans (va_up_ne _ _ (nkl a 0))).trans (hfr j a b)
  refine mpF S hnm hK hP bd_MD hS (by omega) hk_1 fd_X5_9 (fun r z => by cases z; rfl) rfl rfl (Nat.le_of_ble_eq_true rfl) dX5_init_10 (fun g_2 H locs eg_2 hP hS => ?_)
  have hk_2 : g_2 k = .inr (5, [.ref (bd b0 N), .int (nI 0), .int (nI 0), .int (nI 0), .int (nI 0), .int (nI 0)]) := by (rw [eg_2, va_up_self]) <;> exact rfl
  have hN_2 : g_2 N = .inl (cy 0, 160, .inl (fun x9 => nI ((fun _ => 0) x9))) := ((congrFun eg_2 _).trans (va_up_ne _ _ (nkr hk 0))).trans hN_1
  have hfr_2 : ∀ j : Nat, j < N → j ≠ k → g_2 j = g j := fun j a b => ((congrFun eg_2 _).trans (va_up_ne _ _ b)).trans (hfr_1 j a b)
  refine W_hz hz0 hP (by omega) (by omega) (fun hz => ?_)
  exact rGv S hr hlk hz hP hS ⟨hk_2, hN_2, hfr_2⟩ (Nat.le_of_ble_eq_true rfl) (Nat.le_of_ble_eq_true rfl) dX5_init_13
set_option maxHeartbeats 4000000 in
set_option maxRecDepth 100000 in
theorem c_X7_init (l : Launch) (D : va_G) (cy : Nat → ClassId) (b0 N : Nat) (g : Nat → va_E) (k : Nat) (hk : k < N) (hg : g k = .inr (7, [.null, .int (nI 0)])) : Met l yX7_init (WS yX7_init cX7_init 1 none) (rmG 1 1 16 13) (PG [.ref (bd b0 k)] D cy b0 N g) (QG (fun g1 => g1 k = .inr (7, [.ref (bd b0 N), .int (nI 0)]) ∧ g1 N = .inl (cy 1, 16, .inl (fun x9 => nI ((fun _ => 0) x9))) ∧ ∀ j, j < N → j ≠ k → g1 j = g j) D b0 (N + 1)) 1 16 (AB b0) := by
  refine gentry (by decide) (Nat.le_of_ble_eq_true rfl) (fun p e s m below meth c ls S hr hlk hnm hz0 hP hK hN hl => ?_)
  have S : CallFix p m c cX7_init 1 s _ wsL_law RX7 := S
  have hx := S.1
  have hb := S.2.1
  have hl : lv_has ls 1 [(0, .ref (bd b0 k))] := hl
  have hS : va_S (AB b0) s.heap s.heap [] := va_S.rf
  have hA : ∀ q, s.heap.size ≤ q → AB b0 q := fun q h => by show b0 ≤ q; omega
  have hfr : ∀ j : Nat, j < N → j ≠ k → g j = g j := fun _ _ _ => rfl
  refine lv_aload_n hx hb dX7_init_0 rfl (lv_at hl 0 rfl) ?_
  refine W.objInit hx hb S.2.2.2.1 (S.2.2.2.2 _ m_X7_3) (S.2.2.2.2 _ mi_objectInit) (S.2.2.2.2 _ mc_objectInit) rfl (hl.1.trans S.2.2.1.symm) rfl dX7_init_1 (Nat.le_of_ble_eq_true rfl) (Nat.le_of_ble_eq_true rfl) ?_
  refine W.eq (g2 := F0 m 4 ls []) rfl ?_
  refine lv_aload_n hx hb dX7_init_4 rfl (lv_at hl 0 rfl) ?_
  refine lv_bipush (v := nI 16) hx hb dX7_init_5 (by decide) ?_
  refine W_hz hz0 hP (by omega) (by omega) (fun hz => ?_)
  refine gnewa (atype := .int) (t := 1) (n0 := 16) (a0 := (16, .inl (fun x9 => nI ((fun _ => 0) x9)))) S hK hP bd_MD hS hA hz.symm ma_int rfl (za_int 16) (by decide) (by decide) (Nat.le_of_ble_eq_true rfl) (Nat.le_of_ble_eq_true rfl) (Nat.le_of_ble_eq_true rfl) dX7_init_7 (fun g_1 H eg_1 hP _ hS _ => ?_)
  have hk_1 : g_1 k = .inr (7, [.null, .int (nI 0)]) := ((congrFun eg_1 _).trans (va_up_ne _ _ (nkl hk 0))).trans hg
  have hN_1 : g_1 N = .inl (cy 1, 16, .inl (fun x9 => nI ((fun _ => 0) x9))) := by (rw [eg_1, va_up_self]) <;> exact rfl
  have hfr_1 : ∀ j : Nat, j < N → j ≠ k → g_1 j = g j := fun j a b => ((congrFun eg_1 _).trans (va_up_ne _ _ (nkl a 0))).trans (hfr j a b)
  refine mpF S hnm hK hP bd_MD hS (by omega) hk_1 fd_X7_9 (fun r z => by cases z; rfl) rfl rfl (Nat.le_of_ble_eq_true rfl) dX7_init_9 (fun g_2 H locs eg_2 hP hS => ?_)
  have hk_2 : g_2 k = .inr (7, [.ref (bd b0 N), .int (nI 0)]) := by (rw [eg_2, va_up_self]) <;> exact rfl
  have hN_2 : g_2 N = .inl (cy 1, 16, .inl (fun x9 => nI ((fun _ => 0) x9))) := ((congrFun eg_2 _).trans (va_up_ne _ _ (nkr hk 0))).trans hN_1
  have hfr_2 : ∀ j : Nat, j < N → j ≠ k → g_2 j = g j := fun j a b => ((congrFun eg_2 _).trans (va_up_ne _ _ b)).trans (hfr_1 j a b)
  refine W_hz hz0 hP (by omega) (by omega) (fun hz => ?_)
  exact rGv S hr hlk hz hP hS ⟨hk_2, hN_2, hfr_2⟩ (Nat.le_of_ble_eq_true rfl) (Nat.le_of_ble_eq_true rfl) dX7_init_12
set_option maxHeartbeats 4000000 in
set_option maxRecDepth 100000 in
theorem c_X4_init (l : Launch) (D : va_G) (cy : Nat → ClassId) (b0 N : Nat) (g : Nat → va_E) (k : Nat) (hk : k < N) (hg : g k = .inr (4, [.null, .int (nI 0), .int (nI 0)])) : Met l yX4_init (WS yX4_init cX4_init 1 none) (rmG 1 1 60 13) (PG [.ref (bd b0 k)] D cy b0 N g) (QG (fun g1 => g1 k = .inr (4, [.ref (bd b0 N), .int (-1), .int (nI 0)]) ∧ g1 N = .inl (cy 1, 60, .inl (fun x9 => nI ((fun _ => 0) x9))) ∧ ∀ j, j < N → j ≠ k → g1 j = g j) D b0 (N + 1)) 1 60 (AB b0) := by
  refine gentry (by decide) (Nat.le_of_ble_eq_true rfl) (fun p e s m below meth c ls S hr hlk hnm hz0 hP hK hN hl => ?_)
  have S : CallFix p m c cX4_init 1 s _ wsL_law RX4 := S
  have hx := S.1
  have hb := S.2.1
  have hl : lv_has ls 1 [(0, .ref (bd b0 k))] := hl
  have hS : va_S (AB b0) s.heap s.heap [] := va_S.rf
  have hA : ∀ q, s.heap.size ≤ q → AB b0 q := fun q h => by show b0 ≤ q; omega
  have hfr : ∀ j : Nat, j < N → j ≠ k → g j = g j := fun _ _ _ => rfl
  refine lv_aload_n hx hb dX4_init_0 rfl (lv_at hl 0 rfl) ?_
  refine W.objInit hx hb S.2.2.2.1 (S.2.2.2.2 _ m_X4_3) (S.2.2.2.2 _ mi_objectInit) (S.2.2.2.2 _ mc_objectInit) rfl (hl.1.trans S.2.2.1.symm) rfl dX4_init_1 (Nat.le_of_ble_eq_true rfl) (Nat.le_of_ble_eq_true rfl) ?_
  refine W.eq (g2 := F0 m 4 ls []) rfl ?_
  refine lv_aload_n hx hb dX4_init_4 rfl (lv_at hl 0 rfl) ?_
  refine lv_bipush (v := nI 60) hx hb dX4_init_5 (by decide) ?_
  refine W_hz hz0 hP (by omega) (by omega) (fun hz => ?_)
  refine gnewa (atype := .int) (t := 1) (n0 := 60) (a0 := (60, .inl (fun x9 => nI ((fun _ => 0) x9)))) S hK hP bd_MD hS hA hz.symm ma_int rfl (za_int 60) (by decide) (by decide) (Nat.le_of_ble_eq_true rfl) (Nat.le_of_ble_eq_true rfl) (Nat.le_of_ble_eq_true rfl) dX4_init_7 (fun g_1 H eg_1 hP _ hS _ => ?_)
  have hk_1 : g_1 k = .inr (4, [.null, .int (nI 0), .int (nI 0)]) := ((congrFun eg_1 _).trans (va_up_ne _ _ (nkl hk 0))).trans hg
  have hN_1 : g_1 N = .inl (cy 1, 60, .inl (fun x9 => nI ((fun _ => 0) x9))) := by (rw [eg_1, va_up_self]) <;> exact rfl
  have hfr_1 : ∀ j : Nat, j < N → j ≠ k → g_1 j = g j := fun j a b => ((congrFun eg_1 _).trans (va_up_ne _ _ (nkl a 0))).trans (hfr j a b)
  refine mpF S hnm hK hP bd_MD hS (by omega) hk_1 fd_X4_9 (fun r z => by cases z; rfl) rfl rfl (Nat.le_of_ble_eq_true rfl) dX4_init_9 (fun g_2 H locs eg_2 hP hS => ?_)
  have hk_2 : g_2 k = .inr (4, [.ref (bd b0 N), .int (nI 0), .int (nI 0)]) := by (rw [eg_2, va_up_self]) <;> exact rfl
  have hN_2 : g_2 N = .inl (cy 1, 60, .inl (fun x9 => nI ((fun _ => 0) x9))) := ((congrFun eg_2 _).trans (va_up_ne _ _ (nkr hk 0))).trans hN_1
  have hfr_2 : ∀ j : Nat, j < N → j ≠ k → g_2 j = g j := fun j a b => ((congrFun eg_2 _).trans (va_up_ne _ _ b)).trans (hfr_1 j a b)
  refine lv_aload_n hx hb dX4_init_12 rfl (lv_at hl 0 rfl) ?_
  refine lv_iconst (v := (-1)) hx hb dX4_init_13 (by decide) ?_
  refine mp S hK hP bd_MD hS (by omega) hk_2 fd_X4_15 rfl rfl (Nat.le_of_ble_eq_true rfl) dX4_init_14 (fun g_3 H locs eg_3 hP hS => ?_)
  have hk_3 : g_3 k = .inr (4, [.ref (bd b0 N), .int (-1), .int (nI 0)]) := by (rw [eg_3, va_up_self]) <;> exact rfl
  have hN_3 : g_3 N = .inl (cy 1, 60, .inl (fun x9 => nI ((fun _ => 0) x9))) := ((congrFun eg_3 _).trans (va_up_ne _ _ (nkr hk 0))).trans hN_2
  have hfr_3 : ∀ j : Nat, j < N → j ≠ k → g_3 j = g j := fun j a b => ((congrFun eg_3 _).trans (va_up_ne _ _ b)).trans (hfr_2 j a b)
  refine W_hz hz0 hP (by omega) (by omega) (fun hz => ?_)
  exact rGv S hr hlk hz hP hS ⟨hk_3, hN_3, hfr_3⟩ (Nat.le_of_ble_eq_true rfl) (Nat.le_of_ble_eq_true rfl) dX4_init_17


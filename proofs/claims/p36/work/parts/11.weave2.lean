set_option maxHeartbeats 4000000 in
set_option maxRecDepth 100000 in
theorem c_X8_begin (l : Launch) (D : va_G) (cy : Nat → ClassId) (ad : Nat → Nat) (N : Nat) (g : Nat → va_E) (hinj : ∀ i j : Nat, i < N → j < N → ad i = ad j → i = j) (k : Nat) (hk : k < N) (x0 : Int32) (x1 : Int64) (x2 : Int32) (x3 : Int32) (x4 : Int64) (hg : g k = .inr (8, [.int x0, .long x1, .int x2, .int x3, .long x4])) (n : Nat) (hn4 : 4 ≤ n) (hn8 : n ≤ 8) : Met l yX8_begin (WS yX8_begin cX8_begin 2 none) (rmF 1 20) (PP [.ref (ad k), .int (nI (n))] D cy ad N g) (QV (fun g1 => g1 k = .inr (8, [.int (nI (n)), .long (lN (sea ((fun p => p)) n)), .int (nI (2 ^ n - 1)), .int (nI (2 ^ n - 1)), .long (lN 0)]) ∧ (∀ j, j ≠ k → g1 j = g j)) D ad N) 0 0 (AA ad N) := by
  refine mentry (by decide) (Nat.le_of_ble_eq_true rfl) (fun p e s m below meth c ls S hr hlk hnm hP hK hl => ?_)
  have S : CallFix p m c cX8_begin 2 s _ wsL_law RX8 := S
  have hx := S.1
  have hb := S.2.1
  have hl : lv_has ls 2 [(0, .ref (ad k)), (1, .int (nI (n)))] := hl
  have hI : MD (AA ad N) ad N := MD.in hinj
  have hS : va_S (AA ad N) s.heap s.heap [] := va_S.rf
  have hfr : ∀ j : Nat, g j = g j := fun _ => rfl
  refine lv_aload_n hx hb dX8_begin_0 rfl (lv_at hl 0 rfl) ?_
  refine lv_iload_n hx hb dX8_begin_1 rfl (lv_at hl 1 rfl) ?_
  refine mp S hK hP hI hS hk hg fd_X8_15 rfl rfl (Nat.le_of_ble_eq_true rfl) dX8_begin_2 (fun g_1 H locs eg_1 hP hS => ?_)
  have hk_1 : g_1 k = .inr (8, [.int (nI (n)), .long x1, .int x2, .int x3, .long x4]) := by rw [eg_1, va_up_self]; exact rfl
  have hfr_1 : ∀ j : Nat, j ≠ k → g_1 j = g j := fun j n0 => ((congrFun eg_1 _).trans (va_up_ne _ _ n0)).trans (hfr j )
  refine lv_aload_n hx hb dX8_begin_5 rfl (lv_at hl 0 rfl) ?_
  refine lv_ldc2 hx hb S.2.2.2.1 (S.2.2.2.2 _ m_X8_19) dX8_begin_6 ?_
  refine tpl (show (1985229328 : Int64) = lN 1985229328 from rfl) ?_
  refine lv_aload_n hx hb dX8_begin_9 rfl (lv_at hl 0 rfl) ?_
  refine kVl (As := []) (rest := [.long (lN 1985229328), .ref (ad k)]) S hK hP (c_X8_seatBits l D cy ad N g_1 k hk n x1 x2 x3 x4 hk_1 hn4 hn8) cv_X8_21 hk hk_1 ⟨_, _, rfl⟩ ⟨rfl, rfl⟩ rfl hl.1 rfl (Nat.le_of_ble_eq_true rfl) ⟨Nat.zero_le _, Nat.zero_le _⟩ dX8_begin_10 (fun r_10 q_10 => ?_)
  subst q_10
  refine lv_land hx hb dX8_begin_13 ?_
  refine tpl (wb_and (by decide) (p64m hn8)) ?_
  refine tpl (congrArg lN (sea_id n hn8)) ?_
  refine mp S hK hP hI hS hk hk_1 fd_X8_25 rfl rfl (Nat.le_of_ble_eq_true rfl) dX8_begin_14 (fun g_2 H locs eg_2 hP hS => ?_)
  have hk_2 : g_2 k = .inr (8, [.int (nI (n)), .long (lN (sea ((fun p => p)) n)), .int x2, .int x3, .long x4]) := by rw [eg_2, va_up_self]; exact rfl
  have hfr_2 : ∀ j : Nat, j ≠ k → g_2 j = g j := fun j n0 => ((congrFun eg_2 _).trans (va_up_ne _ _ n0)).trans (hfr_1 j n0)
  refine lv_aload_n hx hb dX8_begin_17 rfl (lv_at hl 0 rfl) ?_
  refine lv_iconst (v := nI (1)) hx hb dX8_begin_18 (by decide) ?_
  refine lv_iload_n hx hb dX8_begin_19 rfl (lv_at hl 1 rfl) ?_
  refine lv_ishl hx hb dX8_begin_20 ?_
  refine tpi (shlN 1 (by omega)) ?_
  have hz : 1 ≤ 1 * 2 ^ n := Nat.one_le_mul_pow n
  refine lv_iconst (v := nI (1)) hx hb dX8_begin_21 (by decide) ?_
  refine lv_isub hx hb dX8_begin_22 ?_
  refine tpi (pk_sub (a := 1 * 2 ^ n) (b := 1) (by omega)) ?_
  refine tpi (by rw [Nat.one_mul]) ?_
  refine mp S hK hP hI hS hk hk_2 fd_X8_29 rfl rfl (Nat.le_of_ble_eq_true rfl) dX8_begin_23 (fun g_3 H locs eg_3 hP hS => ?_)
  have hk_3 : g_3 k = .inr (8, [.int (nI (n)), .long (lN (sea ((fun p => p)) n)), .int (nI (2 ^ n - 1)), .int x3, .long x4]) := by rw [eg_3, va_up_self]; exact rfl
  have hfr_3 : ∀ j : Nat, j ≠ k → g_3 j = g j := fun j n0 => ((congrFun eg_3 _).trans (va_up_ne _ _ n0)).trans (hfr_2 j n0)
  refine lv_aload_n hx hb dX8_begin_26 rfl (lv_at hl 0 rfl) ?_
  refine lv_iconst (v := nI (1)) hx hb dX8_begin_27 (by decide) ?_
  refine lv_iload_n hx hb dX8_begin_28 rfl (lv_at hl 1 rfl) ?_
  refine lv_ishl hx hb dX8_begin_29 ?_
  refine tpi (shlN 1 (by omega)) ?_
  have hz : 1 ≤ 1 * 2 ^ n := Nat.one_le_mul_pow n
  refine lv_iconst (v := nI (1)) hx hb dX8_begin_30 (by decide) ?_
  refine lv_isub hx hb dX8_begin_31 ?_
  refine tpi (pk_sub (a := 1 * 2 ^ n) (b := 1) (by omega)) ?_
  refine tpi (by rw [Nat.one_mul]) ?_
  refine mp S hK hP hI hS hk hk_3 fd_X8_32 rfl rfl (Nat.le_of_ble_eq_true rfl) dX8_begin_32 (fun g_4 H locs eg_4 hP hS => ?_)
  have hk_4 : g_4 k = .inr (8, [.int (nI (n)), .long (lN (sea ((fun p => p)) n)), .int (nI (2 ^ n - 1)), .int (nI (2 ^ n - 1)), .long x4]) := by rw [eg_4, va_up_self]; exact rfl
  have hfr_4 : ∀ j : Nat, j ≠ k → g_4 j = g j := fun j n0 => ((congrFun eg_4 _).trans (va_up_ne _ _ n0)).trans (hfr_3 j n0)
  refine lv_aload_n hx hb dX8_begin_35 rfl (lv_at hl 0 rfl) ?_
  refine lv_lconst (v := lN 0) hx hb dX8_begin_36 (by decide) ?_
  refine mp S hK hP hI hS hk hk_4 fd_X8_35 rfl rfl (Nat.le_of_ble_eq_true rfl) dX8_begin_37 (fun g_5 H locs eg_5 hP hS => ?_)
  have hk_5 : g_5 k = .inr (8, [.int (nI (n)), .long (lN (sea ((fun p => p)) n)), .int (nI (2 ^ n - 1)), .int (nI (2 ^ n - 1)), .long (lN 0)]) := by rw [eg_5, va_up_self]; exact rfl
  have hfr_5 : ∀ j : Nat, j ≠ k → g_5 j = g j := fun j n0 => ((congrFun eg_5 _).trans (va_up_ne _ _ n0)).trans (hfr_4 j n0)
  exact rMv S hr hlk hP hS ⟨hk_5, hfr_5⟩ dX8_begin_40
set_option maxHeartbeats 4000000 in
set_option maxRecDepth 100000 in
theorem c_X8_become (l : Launch) (D : va_G) (cy : Nat → ClassId) (ad : Nat → Nat) (N : Nat) (g : Nat → va_E) (hinj : ∀ i j : Nat, i < N → j < N → ad i = ad j → i = j) (k : Nat) (hk : k < N) (x0 : Int32) (x1 : Int64) (x2 : Int32) (x3 : Int32) (x4 : Int64) (hg : g k = .inr (8, [.int x0, .long x1, .int x2, .int x3, .long x4])) (k2 : Nat) (hk2 : k2 < N) (y0 : Int32) (y1 : Int64) (y2 : Int32) (y3 : Int32) (y4 : Int64) (hg2 : g k2 = .inr (8, [.int y0, .long y1, .int y2, .int y3, .long y4])) (hkk : k ≠ k2) : Met l yX8_become (WS yX8_become cX8_become 2 none) (rmF 0 0) (PP [.ref (ad k), .ref (ad k2)] D cy ad N g) (QV (fun g1 => g1 k = .inr (8, [.int y0, .long y1, .int y2, .int y3, .long y4]) ∧ (∀ j, j ≠ k → g1 j = g j)) D ad N) 0 0 (AA ad N) := by
  refine mentry (by decide) (Nat.le_of_ble_eq_true rfl) (fun p e s m below meth c ls S hr hlk hnm hP hK hl => ?_)
  have S : CallFix p m c cX8_become 2 s _ wsL_law RX8 := S
  have hx := S.1
  have hb := S.2.1
  have hl : lv_has ls 2 [(0, .ref (ad k)), (1, .ref (ad k2))] := hl
  have hI : MD (AA ad N) ad N := MD.in hinj
  have hS : va_S (AA ad N) s.heap s.heap [] := va_S.rf
  have hfr : ∀ j : Nat, g j = g j := fun _ => rfl
  refine lv_aload_n hx hb dX8_become_0 rfl (lv_at hl 0 rfl) ?_
  refine lv_aload_n hx hb dX8_become_1 rfl (lv_at hl 1 rfl) ?_
  refine mg S hK hP hk2 hg2 fd_X8_15 rfl dX8_become_2 ?_
  refine mp S hK hP hI hS hk hg fd_X8_15 rfl rfl (Nat.le_of_ble_eq_true rfl) dX8_become_5 (fun g_1 H locs eg_1 hP hS => ?_)
  have hk_1 : g_1 k = .inr (8, [.int y0, .long x1, .int x2, .int x3, .long x4]) := by rw [eg_1, va_up_self]; exact rfl
  have hk2_1 : g_1 k2 = .inr (8, [.int y0, .long y1, .int y2, .int y3, .long y4]) := ((congrFun eg_1 _).trans (va_up_ne _ _ (Ne.symm hkk))).trans hg2
  have hfr_1 : ∀ j : Nat, j ≠ k → g_1 j = g j := fun j n0 => ((congrFun eg_1 _).trans (va_up_ne _ _ n0)).trans (hfr j )
  refine lv_aload_n hx hb dX8_become_8 rfl (lv_at hl 0 rfl) ?_
  refine lv_aload_n hx hb dX8_become_9 rfl (lv_at hl 1 rfl) ?_
  refine mg S hK hP hk2 hk2_1 fd_X8_25 rfl dX8_become_10 ?_
  refine mp S hK hP hI hS hk hk_1 fd_X8_25 rfl rfl (Nat.le_of_ble_eq_true rfl) dX8_become_13 (fun g_2 H locs eg_2 hP hS => ?_)
  have hk_2 : g_2 k = .inr (8, [.int y0, .long y1, .int x2, .int x3, .long x4]) := by rw [eg_2, va_up_self]; exact rfl
  have hk2_2 : g_2 k2 = .inr (8, [.int y0, .long y1, .int y2, .int y3, .long y4]) := ((congrFun eg_2 _).trans (va_up_ne _ _ (Ne.symm hkk))).trans hk2_1
  have hfr_2 : ∀ j : Nat, j ≠ k → g_2 j = g j := fun j n0 => ((congrFun eg_2 _).trans (va_up_ne _ _ n0)).trans (hfr_1 j n0)
  refine lv_aload_n hx hb dX8_become_16 rfl (lv_at hl 0 rfl) ?_
  refine lv_aload_n hx hb dX8_become_17 rfl (lv_at hl 1 rfl) ?_
  refine mg S hK hP hk2 hk2_2 fd_X8_29 rfl dX8_become_18 ?_
  refine mp S hK hP hI hS hk hk_2 fd_X8_29 rfl rfl (Nat.le_of_ble_eq_true rfl) dX8_become_21 (fun g_3 H locs eg_3 hP hS => ?_)
  have hk_3 : g_3 k = .inr (8, [.int y0, .long y1, .int y2, .int x3, .long x4]) := by rw [eg_3, va_up_self]; exact rfl
  have hk2_3 : g_3 k2 = .inr (8, [.int y0, .long y1, .int y2, .int y3, .long y4]) := ((congrFun eg_3 _).trans (va_up_ne _ _ (Ne.symm hkk))).trans hk2_2
  have hfr_3 : ∀ j : Nat, j ≠ k → g_3 j = g j := fun j n0 => ((congrFun eg_3 _).trans (va_up_ne _ _ n0)).trans (hfr_2 j n0)
  refine lv_aload_n hx hb dX8_become_24 rfl (lv_at hl 0 rfl) ?_
  refine lv_aload_n hx hb dX8_become_25 rfl (lv_at hl 1 rfl) ?_
  refine mg S hK hP hk2 hk2_3 fd_X8_32 rfl dX8_become_26 ?_
  refine mp S hK hP hI hS hk hk_3 fd_X8_32 rfl rfl (Nat.le_of_ble_eq_true rfl) dX8_become_29 (fun g_4 H locs eg_4 hP hS => ?_)
  have hk_4 : g_4 k = .inr (8, [.int y0, .long y1, .int y2, .int y3, .long x4]) := by rw [eg_4, va_up_self]; exact rfl
  have hk2_4 : g_4 k2 = .inr (8, [.int y0, .long y1, .int y2, .int y3, .long y4]) := ((congrFun eg_4 _).trans (va_up_ne _ _ (Ne.symm hkk))).trans hk2_3
  have hfr_4 : ∀ j : Nat, j ≠ k → g_4 j = g j := fun j n0 => ((congrFun eg_4 _).trans (va_up_ne _ _ n0)).trans (hfr_3 j n0)
  refine lv_aload_n hx hb dX8_become_32 rfl (lv_at hl 0 rfl) ?_
  refine lv_aload_n hx hb dX8_become_33 rfl (lv_at hl 1 rfl) ?_
  refine mg S hK hP hk2 hk2_4 fd_X8_35 rfl dX8_become_34 ?_
  refine mp S hK hP hI hS hk hk_4 fd_X8_35 rfl rfl (Nat.le_of_ble_eq_true rfl) dX8_become_37 (fun g_5 H locs eg_5 hP hS => ?_)
  have hk_5 : g_5 k = .inr (8, [.int y0, .long y1, .int y2, .int y3, .long y4]) := by rw [eg_5, va_up_self]; exact rfl
  have hk2_5 : g_5 k2 = .inr (8, [.int y0, .long y1, .int y2, .int y3, .long y4]) := ((congrFun eg_5 _).trans (va_up_ne _ _ (Ne.symm hkk))).trans hk2_4
  have hfr_5 : ∀ j : Nat, j ≠ k → g_5 j = g j := fun j n0 => ((congrFun eg_5 _).trans (va_up_ne _ _ n0)).trans (hfr_4 j n0)
  exact rMv S hr hlk hP hS ⟨hk_5, hfr_5⟩ dX8_become_40
set_option maxHeartbeats 4000000 in
set_option maxRecDepth 100000 in
theorem c_X8_pass (l : Launch) (D : va_G) (cy : Nat → ClassId) (ad : Nat → Nat) (N : Nat) (g : Nat → va_E) (hinj : ∀ i j : Nat, i < N → j < N → ad i = ad j → i = j) (k : Nat) (hk : k < N) (n : Nat) (da : Nat → Nat) (f : Nat) (h : Nat) (o : Nat) (hg : g k = .inr (8, [.int (nI (n)), .long (lN (sea da n)), .int (nI (f)), .int (nI (h)), .long (lN o)])) (hn4 : 4 ≤ n) (hn8 : n ≤ 8) (hda : ∀ p, p < n → da p < n) (ho : o < 2 ^ 64) (hh : h < 256) (p0 : Nat) (hp0 : p0 < n) (b0 : Nat) (hb0 : b0 < 2) : Met l yX8_pass (WS yX8_pass cX8_pass 13 (some .int)) (rmF 2 36) (PP [.ref (ad k), .int (nI (p0)), .int (nI (b0))] D cy ad N g) (QI (fun r g1 => (r = pR (passF n h (da p0) (da (nx n p0)) b0 o 4)) ∧ g1 k = .inr (8, [.int (nI (n)), .long (lN (sea ((if (passF n h (da p0) (da (nx n p0)) b0 o 4).isSome = true then swp da p0 (nx n p0) else da)) n)), .int (nI (f)), .int (nI (h)), .long (lN (((passF n h (da p0) (da (nx n p0)) b0 o 4).getD o)))]) ∧ (∀ j, j ≠ k → g1 j = g j)) D ad N) 0 0 (AA ad N) := by
  refine mentry (by decide) (Nat.le_of_ble_eq_true rfl) (fun p e s m below meth c ls S hr hlk hnm hP hK hl => ?_)
  have S : CallFix p m c cX8_pass 13 s _ wsL_law RX8 := S
  have hx := S.1
  have hb := S.2.1
  have hl : lv_has ls 13 [(0, .ref (ad k)), (1, .int (nI (p0))), (2, .int (nI (b0)))] := hl
  have hI : MD (AA ad N) ad N := MD.in hinj
  have hS : va_S (AA ad N) s.heap s.heap [] := va_S.rf
  have hfr : ∀ j : Nat, g j = g j := fun _ => rfl
  have hq0 := nx_lt hn4 hp0
  have hda0 := hda p0 hp0
  have hda1 := hda _ hq0
  refine lv_aload_n hx hb dX8_pass_0 rfl (lv_at hl 0 rfl) ?_
  refine lv_iload_n hx hb dX8_pass_1 rfl (lv_at hl 1 rfl) ?_
  refine kVi (As := [.int (nI (p0))]) (rest := []) S hK hP (c_X8_next l D cy ad N g k hk n da f h o hg hn4 hn8 p0 (by omega)) cv_X8_75 hk hg ⟨_, _, rfl⟩ ⟨rfl, rfl⟩ rfl hl.1 rfl (Nat.le_of_ble_eq_true rfl) ⟨Nat.zero_le _, Nat.zero_le _⟩ dX8_pass_2 (fun r_2 q_2 => ?_)
  subst q_2
  refine lv_istore_n (lv' := [(3, .int (nI (nx n p0))), (0, .ref (ad k)), (1, .int (nI (p0))), (2, .int (nI (b0)))]) hx hb dX8_pass_5 rfl hl (by decide) rfl (fun ls hl => ?_)
  refine lv_aload_n hx hb dX8_pass_6 rfl (lv_at hl 1 rfl) ?_
  refine lv_iload_n hx hb dX8_pass_7 rfl (lv_at hl 2 rfl) ?_
  refine kVi (As := [.int (nI (p0))]) (rest := []) S hK hP (c_X8_dancerAt l D cy ad N g k hk n da f h o hg hn4 hn8 hda p0 (by omega)) cv_X8_63 hk hg ⟨_, _, rfl⟩ ⟨rfl, rfl⟩ rfl hl.1 rfl (Nat.le_of_ble_eq_true rfl) ⟨Nat.zero_le _, Nat.zero_le _⟩ dX8_pass_8 (fun r_8 q_8 => ?_)
  subst q_8
  refine lv_istore (lv' := [(4, .int (nI (da p0))), (3, .int (nI (nx n p0))), (0, .ref (ad k)), (1, .int (nI (p0))), (2, .int (nI (b0)))]) hx hb dX8_pass_11 hl (by decide) rfl (fun ls hl => ?_)
  refine lv_aload_n hx hb dX8_pass_13 rfl (lv_at hl 2 rfl) ?_
  refine lv_iload_n hx hb dX8_pass_14 rfl (lv_at hl 1 rfl) ?_
  refine kVi (As := [.int (nI (nx n p0))]) (rest := []) S hK hP (c_X8_dancerAt l D cy ad N g k hk n da f h o hg hn4 hn8 hda (nx n p0) hq0) cv_X8_63 hk hg ⟨_, _, rfl⟩ ⟨rfl, rfl⟩ rfl hl.1 rfl (Nat.le_of_ble_eq_true rfl) ⟨Nat.zero_le _, Nat.zero_le _⟩ dX8_pass_15 (fun r_15 q_15 => ?_)
  subst q_15
  refine lv_istore (lv' := [(5, .int (nI (da (nx n p0)))), (4, .int (nI (da p0))), (3, .int (nI (nx n p0))), (0, .ref (ad k)), (1, .int (nI (p0))), (2, .int (nI (b0)))]) hx hb dX8_pass_18 hl (by decide) rfl (fun ls hl => ?_)
  refine lv_aload_n hx hb dX8_pass_20 rfl (lv_at hl 3 rfl) ?_
  refine mg S hK hP hk hg fd_X8_35 rfl dX8_pass_21 ?_
  refine lv_lstore (lv' := [(6, .long (lN o)), (5, .int (nI (da (nx n p0)))), (4, .int (nI (da p0))), (3, .int (nI (nx n p0))), (0, .ref (ad k)), (1, .int (nI (p0))), (2, .int (nI (b0)))]) hx hb dX8_pass_24 hl (by decide) rfl (fun ls hl => ?_)
  refine lv_iconst (v := nI (0)) hx hb dX8_pass_26 (by decide) ?_
  refine lv_istore (lv' := [(8, .int (nI (0))), (6, .long (lN o)), (5, .int (nI (da (nx n p0)))), (4, .int (nI (da p0))), (3, .int (nI (nx n p0))), (0, .ref (ad k)), (1, .int (nI (p0))), (2, .int (nI (b0)))]) hx hb dX8_pass_27 hl (by decide) rfl (fun ls hl => ?_)
  have L29 : ∀ (fu : Nat) (j o1 : Nat), (j ≤ 4) → ((passF n h (da p0) (da (nx n p0)) b0 o j) = some o1) → (o1 < 2 ^ 64) → (4 - j) < fu → ∀ (ls : Array Slot), lv_has ls 13 [(8, .int (nI (j))), (6, .long (lN o1)), (5, .int (nI (da (nx n p0)))), (4, .int (nI (da p0))), (3, .int (nI (nx n p0))), (0, .ref (ad k)), (1, .int (nI (p0))), (2, .int (nI (b0)))] → W p l e (rmF 2 36) s m [.ref (ad k), .int (nI (p0)), .int (nI (b0))].toArray below meth c s.heap [] 0 0 (MQ below (QI (fun r g1 => (r = pR (passF n h (da p0) (da (nx n p0)) b0 o 4)) ∧ g1 k = .inr (8, [.int (nI (n)), .long (lN (sea ((if (passF n h (da p0) (da (nx n p0)) b0 o 4).isSome = true then swp da p0 (nx n p0) else da)) n)), .int (nI (f)), .int (nI (h)), .long (lN (((passF n h (da p0) (da (nx n p0)) b0 o 4).getD o)))]) ∧ (∀ j, j ≠ k → g1 j = g j)) D ad N) [.ref (ad k), .int (nI (p0)), .int (nI (b0))].toArray s 0 0 (AA ad N)) (F0 m 29 ls []) := by
    intro fu
    induction fu with
    | zero => intro j o1 hj ho1 hob hms ls hl; exact absurd hms (Nat.not_lt_zero _)
    | succ fu ih29 =>
      intro j o1 hj ho1 hob hms ls hl
      refine lv_iload hx hb dX8_pass_29 (lv_at hl 0 rfl) ?_
      refine lv_iconst (v := nI (4)) hx hb dX8_pass_31 (by decide) ?_
      refine lv_icmp_ge (tgt := 161) hx hb dX8_pass_32 (by decide) (fun c_32 => ?_) (fun c_32 => ?_)
      · skip
        have c_32 := (nI_leI (by omega) (by omega)).mp c_32
        refine lv_aload_n hx hb dX8_pass_161 rfl (lv_at hl 5 rfl) ?_
        refine lv_lload hx hb dX8_pass_162 (lv_at hl 1 rfl) ?_
        refine mp S hK hP hI hS hk hg fd_X8_35 rfl rfl (Nat.le_of_ble_eq_true rfl) dX8_pass_164 (fun g_1 H locs eg_1 hP hS => ?_)
        have hk_1 : g_1 k = .inr (8, [.int (nI (n)), .long (lN (sea da n)), .int (nI (f)), .int (nI (h)), .long (lN o1)]) := by rw [eg_1, va_up_self]; exact rfl
        have hfr_1 : ∀ j : Nat, j ≠ k → g_1 j = g j := fun j n0 => ((congrFun eg_1 _).trans (va_up_ne _ _ n0)).trans (hfr j )
        refine lv_iload hx hb dX8_pass_167 (lv_at hl 3 rfl) ?_
        refine lv_iload hx hb dX8_pass_169 (lv_at hl 2 rfl) ?_
        refine lv_ixor hx hb dX8_pass_171 ?_
        refine tpi (nx_xor (da p0) (da (nx n p0))) ?_
        have hsw : da p0 ^^^ da (nx n p0) < 2 ^ 64 := Nat.xor_lt_two_pow (by omega) (by omega)
        have hsw4 : da p0 ^^^ da (nx n p0) < 16 := Nat.xor_lt_two_pow (n := 4) (by omega) (by omega)
        refine lv_i2l hx hb dX8_pass_172 rfl ?_
        refine tpl (nI_l (by omega)) ?_
        refine lv_lstore (lv' := [(8, .long (lN ((da p0) ^^^ (da (nx n p0))))), (6, .long (lN o1)), (5, .int (nI (da (nx n p0)))), (4, .int (nI (da p0))), (3, .int (nI (nx n p0))), (0, .ref (ad k)), (1, .int (nI (p0))), (2, .int (nI (b0)))]) hx hb dX8_pass_173 hl (by decide) rfl (fun ls hl => ?_)
        refine lv_aload_n hx hb dX8_pass_175 rfl (lv_at hl 5 rfl) ?_
        refine lv_dup hx hb dX8_pass_176 rfl ?_
        refine mg S hK hP hk hk_1 fd_X8_25 rfl dX8_pass_177 ?_
        refine lv_lload hx hb dX8_pass_180 (lv_at hl 0 rfl) ?_
        refine lv_iconst (v := nI (4)) hx hb dX8_pass_182 (by decide) ?_
        refine lv_iload_n hx hb dX8_pass_183 rfl (lv_at hl 6 rfl) ?_
        refine lv_imul hx hb dX8_pass_184 ?_
        refine tpi (pk_mul 4 p0) ?_
        refine lv_lshl hx hb dX8_pass_185 rfl ?_
        refine tpl (wb_shl ((da p0) ^^^ (da (nx n p0))) (k := 4 * p0) (by omega)) ?_
        have hb1 := sw_b hsw4 (show p0 < 8 by omega)
        refine lv_lload hx hb dX8_pass_186 (lv_at hl 0 rfl) ?_
        refine lv_iconst (v := nI (4)) hx hb dX8_pass_188 (by decide) ?_
        refine lv_iload_n hx hb dX8_pass_189 rfl (lv_at hl 4 rfl) ?_
        refine lv_imul hx hb dX8_pass_190 ?_
        refine tpi (pk_mul 4 (nx n p0)) ?_
        refine lv_lshl hx hb dX8_pass_191 rfl ?_
        refine tpl (wb_shl ((da p0) ^^^ (da (nx n p0))) (k := 4 * nx n p0) (by omega)) ?_
        have hb2 := sw_b hsw4 (show nx n p0 < 8 by omega)
        refine lv_lor hx hb dX8_pass_192 ?_
        refine tpl (wb_or (by omega) (by omega)) ?_
        refine lv_lxor hx hb dX8_pass_193 ?_
        refine tpl (lN_xor (sea da n) ((((da p0) ^^^ (da (nx n p0))) * 2 ^ (4 * p0)) ||| (((da p0) ^^^ (da (nx n p0))) * 2 ^ (4 * nx n p0)))) ?_
        refine tpl (congrArg lN (sea_swap (fun r hr => Nat.lt_of_lt_of_le (hda r hr) (by omega)) hp0 hq0 (nx_ne hn4 hp0))) ?_
        refine mp S hK hP hI hS hk hk_1 fd_X8_25 rfl rfl (Nat.le_of_ble_eq_true rfl) dX8_pass_194 (fun g_2 H locs eg_2 hP hS => ?_)
        have hk_2 : g_2 k = .inr (8, [.int (nI (n)), .long (lN (sea (swp da p0 (nx n p0)) n)), .int (nI (f)), .int (nI (h)), .long (lN o1)]) := by rw [eg_2, va_up_self]; exact rfl
        have hfr_2 : ∀ j : Nat, j ≠ k → g_2 j = g j := fun j n0 => ((congrFun eg_2 _).trans (va_up_ne _ _ n0)).trans (hfr_1 j n0)
        refine lv_iconst (v := nI (1)) hx hb dX8_pass_197 (by decide) ?_
        have hj4 : j = 4 := by omega
        subst hj4
        exact rMi S hr hlk hP hS ⟨(by rw [ho1]; rfl), (by rw [ho1]; exact hk_2), hfr_2⟩ dX8_pass_198
      · skip
        have c_32 := (not_congr (nI_leI (by omega) (by omega))).mp c_32
        refine lv_iload hx hb dX8_pass_35 (lv_at hl 0 rfl) ?_
        refine lv_iconst (v := nI (1)) hx hb dX8_pass_37 (by decide) ?_
        refine lv_iand hx hb dX8_pass_38 ?_
        refine tpi (nx_and j 1) ?_
        have hz : j &&& 1 ≤ 1 := Nat.and_le_right
        have J53 : ∀ (x : Nat), (x = pX n (da p0) j) → ∀ (ls : Array Slot), lv_has ls 13 [(8, .int (nI (j))), (6, .long (lN o1)), (5, .int (nI (da (nx n p0)))), (4, .int (nI (da p0))), (3, .int (nI (nx n p0))), (0, .ref (ad k)), (1, .int (nI (p0))), (2, .int (nI (b0)))] → W p l e (rmF 2 36) s m [.ref (ad k), .int (nI (p0)), .int (nI (b0))].toArray below meth c s.heap [] 0 0 (MQ below (QI (fun r g1 => (r = pR (passF n h (da p0) (da (nx n p0)) b0 o 4)) ∧ g1 k = .inr (8, [.int (nI (n)), .long (lN (sea ((if (passF n h (da p0) (da (nx n p0)) b0 o 4).isSome = true then swp da p0 (nx n p0) else da)) n)), .int (nI (f)), .int (nI (h)), .long (lN (((passF n h (da p0) (da (nx n p0)) b0 o 4).getD o)))]) ∧ (∀ j, j ≠ k → g1 j = g j)) D ad N) [.ref (ad k), .int (nI (p0)), .int (nI (b0))].toArray s 0 0 (AA ad N)) (F0 m 53 ls [.int (nI (x))]) := by
          intro x hx0 ls hl
          have hxl : x < n := by rw [hx0]; exact pX_lt hn4 hda0
          refine lv_istore (lv' := [(9, .int (nI (x))), (8, .int (nI (j))), (6, .long (lN o1)), (5, .int (nI (da (nx n p0)))), (4, .int (nI (da p0))), (3, .int (nI (nx n p0))), (0, .ref (ad k)), (1, .int (nI (p0))), (2, .int (nI (b0)))]) hx hb dX8_pass_53 hl (by decide) rfl (fun ls hl => ?_)
          refine lv_iload hx hb dX8_pass_55 (lv_at hl 1 rfl) ?_
          refine lv_iconst (v := nI (2)) hx hb dX8_pass_57 (by decide) ?_
          refine lv_iand hx hb dX8_pass_58 ?_
          refine tpi (nx_and j 2) ?_
          have hz2 : j &&& 2 ≤ 2 := Nat.and_le_right
          have J73 : ∀ (y : Nat), (y = pY n (da (nx n p0)) j) → ∀ (ls : Array Slot), lv_has ls 13 [(9, .int (nI (x))), (8, .int (nI (j))), (6, .long (lN o1)), (5, .int (nI (da (nx n p0)))), (4, .int (nI (da p0))), (3, .int (nI (nx n p0))), (0, .ref (ad k)), (1, .int (nI (p0))), (2, .int (nI (b0)))] → W p l e (rmF 2 36) s m [.ref (ad k), .int (nI (p0)), .int (nI (b0))].toArray below meth c s.heap [] 0 0 (MQ below (QI (fun r g1 => (r = pR (passF n h (da p0) (da (nx n p0)) b0 o 4)) ∧ g1 k = .inr (8, [.int (nI (n)), .long (lN (sea ((if (passF n h (da p0) (da (nx n p0)) b0 o 4).isSome = true then swp da p0 (nx n p0) else da)) n)), .int (nI (f)), .int (nI (h)), .long (lN (((passF n h (da p0) (da (nx n p0)) b0 o 4).getD o)))]) ∧ (∀ j, j ≠ k → g1 j = g j)) D ad N) [.ref (ad k), .int (nI (p0)), .int (nI (b0))].toArray s 0 0 (AA ad N)) (F0 m 73 ls [.int (nI (y))]) := by
            intro y hy0 ls hl
            have hyl : y < n := by rw [hy0]; exact pY_lt hn4 hda1
            refine lv_istore (lv' := [(10, .int (nI (y))), (9, .int (nI (x))), (8, .int (nI (j))), (6, .long (lN o1)), (5, .int (nI (da (nx n p0)))), (4, .int (nI (da p0))), (3, .int (nI (nx n p0))), (0, .ref (ad k)), (1, .int (nI (p0))), (2, .int (nI (b0)))]) hx hb dX8_pass_73 hl (by decide) rfl (fun ls hl => ?_)
            refine lv_aload_n hx hb dX8_pass_75 rfl (lv_at hl 7 rfl) ?_
            refine lv_iload hx hb dX8_pass_76 (lv_at hl 1 rfl) ?_
            refine lv_iload hx hb dX8_pass_78 (lv_at hl 0 rfl) ?_
            refine kVi (As := [.int (nI (x)), .int (nI (y))]) (rest := []) S hK hP (c_X8_canCross l D cy ad N g k hk n da f h o hg hn4 hn8 hh x y hxl hyl) cv_X8_81 hk hg ⟨_, _, rfl⟩ ⟨rfl, rfl⟩ rfl hl.1 rfl (Nat.le_of_ble_eq_true rfl) ⟨Nat.zero_le _, Nat.zero_le _⟩ dX8_pass_80 (fun r_80 q_80 => ?_)
            subst q_80
            refine lv_if_ne (tgt := 89) hx hb dX8_pass_83 (by decide) (fun c_83 => ?_) (fun c_83 => ?_)
            · skip
              have c_83 := bz_ne.mp c_83
              refine lv_iload_n hx hb dX8_pass_89 rfl (lv_at hl 9 rfl) ?_
              have J112 : ∀ (ag : Nat), (ag = pAg b0 x y) → ∀ (ls : Array Slot), lv_has ls 13 [(10, .int (nI (y))), (9, .int (nI (x))), (8, .int (nI (j))), (6, .long (lN o1)), (5, .int (nI (da (nx n p0)))), (4, .int (nI (da p0))), (3, .int (nI (nx n p0))), (0, .ref (ad k)), (1, .int (nI (p0))), (2, .int (nI (b0)))] → W p l e (rmF 2 36) s m [.ref (ad k), .int (nI (p0)), .int (nI (b0))].toArray below meth c s.heap [] 0 0 (MQ below (QI (fun r g1 => (r = pR (passF n h (da p0) (da (nx n p0)) b0 o 4)) ∧ g1 k = .inr (8, [.int (nI (n)), .long (lN (sea ((if (passF n h (da p0) (da (nx n p0)) b0 o 4).isSome = true then swp da p0 (nx n p0) else da)) n)), .int (nI (f)), .int (nI (h)), .long (lN (((passF n h (da p0) (da (nx n p0)) b0 o 4).getD o)))]) ∧ (∀ j, j ≠ k → g1 j = g j)) D ad N) [.ref (ad k), .int (nI (p0)), .int (nI (b0))].toArray s 0 0 (AA ad N)) (F0 m 112 ls [.long (lN (2 ^ ag))]) := by
                intro ag hag ls hl
                have hagl : ag < 64 := by rw [hag]; exact pag_lt (by omega) (by omega)
                refine lv_lstore (lv' := [(11, .long (lN (2 ^ ag))), (10, .int (nI (y))), (9, .int (nI (x))), (8, .int (nI (j))), (6, .long (lN o1)), (5, .int (nI (da (nx n p0)))), (4, .int (nI (da p0))), (3, .int (nI (nx n p0))), (0, .ref (ad k)), (1, .int (nI (p0))), (2, .int (nI (b0)))]) hx hb dX8_pass_112 hl (by decide) rfl (fun ls hl => ?_)
                refine lv_lload hx hb dX8_pass_114 (lv_at hl 4 rfl) ?_
                refine lv_lload hx hb dX8_pass_116 (lv_at hl 0 rfl) ?_
                refine lv_land hx hb dX8_pass_118 ?_
                refine tpl (wb_and hob (p64' hagl)) ?_
                refine lv_lconst (v := lN 0) hx hb dX8_pass_119 (by decide) ?_
                refine W.lcmp hx hb dX8_pass_120 ?_
                refine lv_if_eq (tgt := 127) hx hb dX8_pass_121 (by decide) (fun c_121 => ?_) (fun c_121 => ?_)
                · skip
                  have c_121 := (lgN_eq (Nat.lt_of_le_of_lt Nat.and_le_left hob) (by decide)).mp c_121
                  refine lv_lload hx hb dX8_pass_127 (lv_at hl 4 rfl) ?_
                  refine lv_iload_n hx hb dX8_pass_129 rfl (lv_at hl 10 rfl) ?_
                  have J152 : ∀ (cr : Nat), (cr = pCr b0 x y) → ∀ (ls : Array Slot), lv_has ls 13 [(11, .long (lN (2 ^ ag))), (10, .int (nI (y))), (9, .int (nI (x))), (8, .int (nI (j))), (6, .long (lN o1)), (5, .int (nI (da (nx n p0)))), (4, .int (nI (da p0))), (3, .int (nI (nx n p0))), (0, .ref (ad k)), (1, .int (nI (p0))), (2, .int (nI (b0)))] → W p l e (rmF 2 36) s m [.ref (ad k), .int (nI (p0)), .int (nI (b0))].toArray below meth c s.heap [] 0 0 (MQ below (QI (fun r g1 => (r = pR (passF n h (da p0) (da (nx n p0)) b0 o 4)) ∧ g1 k = .inr (8, [.int (nI (n)), .long (lN (sea ((if (passF n h (da p0) (da (nx n p0)) b0 o 4).isSome = true then swp da p0 (nx n p0) else da)) n)), .int (nI (f)), .int (nI (h)), .long (lN (((passF n h (da p0) (da (nx n p0)) b0 o 4).getD o)))]) ∧ (∀ j, j ≠ k → g1 j = g j)) D ad N) [.ref (ad k), .int (nI (p0)), .int (nI (b0))].toArray s 0 0 (AA ad N)) (F0 m 152 ls [.long (lN (2 ^ cr)), .long (lN o1)]) := by
                    intro cr hcr ls hl
                    have hcrl : cr < 64 := by rw [hcr]; exact pcr_lt (by omega) (by omega)
                    refine lv_lxor hx hb dX8_pass_152 ?_
                    refine tpl (lN_xor o1 (2 ^ cr)) ?_
                    refine lv_lstore (lv' := [(6, .long (lN (o1 ^^^ (2 ^ cr)))), (11, .long (lN (2 ^ ag))), (10, .int (nI (y))), (9, .int (nI (x))), (8, .int (nI (j))), (5, .int (nI (da (nx n p0)))), (4, .int (nI (da p0))), (3, .int (nI (nx n p0))), (0, .ref (ad k)), (1, .int (nI (p0))), (2, .int (nI (b0)))]) hx hb dX8_pass_153 hl (by decide) rfl (fun ls hl => ?_)
                    refine lv_iinc (v := nI (j + 1)) (lv' := [(8, .int (nI (j + 1))), (6, .long (lN (o1 ^^^ (2 ^ cr)))), (11, .long (lN (2 ^ ag))), (10, .int (nI (y))), (9, .int (nI (x))), (5, .int (nI (da (nx n p0)))), (4, .int (nI (da p0))), (3, .int (nI (nx n p0))), (0, .ref (ad k)), (1, .int (nI (p0))), (2, .int (nI (b0)))]) hx hb dX8_pass_155 hl (k := 4) rfl (by exact nI_add j 1) (by decide) rfl (fun ls hl => ?_)
                    refine lv_goto (tgt := 29) hx hb dX8_pass_158 (by decide) ?_
                    exact ih29 (j + 1) (o1 ^^^ (2 ^ cr)) (by omega) (by first | exact passF_no ho1 hx0 hy0 c_83 | exact passF_go ho1 hx0 hy0 c_83 hag c_121 hcr) (by first | exact hob | exact Nat.xor_lt_two_pow hob (p64' hcrl)) (by omega) _ (lv_sub hl [0, 1, 5, 6, 7, 8, 9, 10] rfl)
                  refine lv_if_eq (tgt := 144) hx hb dX8_pass_130 (by decide) (fun c_130 => ?_) (fun c_130 => ?_)
                  · skip
                    have c_130 := (z_eq (by omega)).mp c_130
                    refine lv_aload_n hx hb dX8_pass_144 rfl (lv_at hl 8 rfl) ?_
                    refine lv_iload hx hb dX8_pass_145 (lv_at hl 1 rfl) ?_
                    refine lv_iload hx hb dX8_pass_147 (lv_at hl 2 rfl) ?_
                    refine kVl (As := [.int (nI (y)), .int (nI (x))]) (rest := [.long (lN o1)]) S hK hP (c_X8_overBit l D cy ad N g k hk n da f h o hg hn4 hn8 y x (by omega) (by omega)) cv_X8_51 hk hg ⟨_, _, rfl⟩ ⟨rfl, rfl⟩ rfl hl.1 rfl (Nat.le_of_ble_eq_true rfl) ⟨Nat.zero_le _, Nat.zero_le _⟩ dX8_pass_149 (fun r_149 q_149 => ?_)
                    subst q_149
                    exact J152 (8 * y + x) (by rw [pCr, if_pos c_130]) _ (lv_sub hl [0, 1, 2, 3, 4, 5, 6, 7, 8, 9, 10] rfl)
                  · skip
                    have c_130 := (not_congr (z_eq (by omega))).mp c_130
                    refine lv_aload_n hx hb dX8_pass_133 rfl (lv_at hl 8 rfl) ?_
                    refine lv_iload hx hb dX8_pass_134 (lv_at hl 2 rfl) ?_
                    refine lv_iload hx hb dX8_pass_136 (lv_at hl 1 rfl) ?_
                    refine kVl (As := [.int (nI (x)), .int (nI (y))]) (rest := [.long (lN o1)]) S hK hP (c_X8_overBit l D cy ad N g k hk n da f h o hg hn4 hn8 x y (by omega) (by omega)) cv_X8_51 hk hg ⟨_, _, rfl⟩ ⟨rfl, rfl⟩ rfl hl.1 rfl (Nat.le_of_ble_eq_true rfl) ⟨Nat.zero_le _, Nat.zero_le _⟩ dX8_pass_138 (fun r_138 q_138 => ?_)
                    subst q_138
                    refine lv_goto (tgt := 152) hx hb dX8_pass_141 (by decide) ?_
                    exact J152 (8 * x + y) (by rw [pCr, if_neg c_130]) _ (lv_sub hl [0, 1, 2, 3, 4, 5, 6, 7, 8, 9, 10] rfl)
                · skip
                  have c_121 := (not_congr (lgN_eq (Nat.lt_of_le_of_lt Nat.and_le_left hob) (by decide))).mp c_121
                  refine lv_bipush (v := (-5)) hx hb dX8_pass_124 (by decide) ?_
                  have hno := passF_ca (by omega) ho1 hx0 hy0 c_83 hag c_121
                  exact rMi S hr hlk hP hS ⟨(by rw [hno]; rfl), (by rw [hno]; exact hg), (fun j n0 => hfr j )⟩ dX8_pass_126
              refine lv_if_eq (tgt := 104) hx hb dX8_pass_90 (by decide) (fun c_90 => ?_) (fun c_90 => ?_)
              · skip
                have c_90 := (z_eq (by omega)).mp c_90
                refine lv_aload_n hx hb dX8_pass_104 rfl (lv_at hl 7 rfl) ?_
                refine lv_iload hx hb dX8_pass_105 (lv_at hl 1 rfl) ?_
                refine lv_iload hx hb dX8_pass_107 (lv_at hl 0 rfl) ?_
                refine kVl (As := [.int (nI (x)), .int (nI (y))]) (rest := []) S hK hP (c_X8_overBit l D cy ad N g k hk n da f h o hg hn4 hn8 x y (by omega) (by omega)) cv_X8_51 hk hg ⟨_, _, rfl⟩ ⟨rfl, rfl⟩ rfl hl.1 rfl (Nat.le_of_ble_eq_true rfl) ⟨Nat.zero_le _, Nat.zero_le _⟩ dX8_pass_109 (fun r_109 q_109 => ?_)
                subst q_109
                exact J112 (8 * x + y) (by rw [pAg, if_pos c_90]) _ (lv_sub hl [0, 1, 2, 3, 4, 5, 6, 7, 8, 9] rfl)
              · skip
                have c_90 := (not_congr (z_eq (by omega))).mp c_90
                refine lv_aload_n hx hb dX8_pass_93 rfl (lv_at hl 7 rfl) ?_
                refine lv_iload hx hb dX8_pass_94 (lv_at hl 0 rfl) ?_
                refine lv_iload hx hb dX8_pass_96 (lv_at hl 1 rfl) ?_
                refine kVl (As := [.int (nI (y)), .int (nI (x))]) (rest := []) S hK hP (c_X8_overBit l D cy ad N g k hk n da f h o hg hn4 hn8 y x (by omega) (by omega)) cv_X8_51 hk hg ⟨_, _, rfl⟩ ⟨rfl, rfl⟩ rfl hl.1 rfl (Nat.le_of_ble_eq_true rfl) ⟨Nat.zero_le _, Nat.zero_le _⟩ dX8_pass_98 (fun r_98 q_98 => ?_)
                subst q_98
                refine lv_goto (tgt := 112) hx hb dX8_pass_101 (by decide) ?_
                exact J112 (8 * y + x) (by rw [pAg, if_neg c_90]) _ (lv_sub hl [0, 1, 2, 3, 4, 5, 6, 7, 8, 9] rfl)
            · skip
              have c_83 := bz_eq.mp c_83
              refine lv_goto (tgt := 155) hx hb dX8_pass_86 (by decide) ?_
              refine lv_iinc (v := nI (j + 1)) (lv' := [(8, .int (nI (j + 1))), (10, .int (nI (y))), (9, .int (nI (x))), (6, .long (lN o1)), (5, .int (nI (da (nx n p0)))), (4, .int (nI (da p0))), (3, .int (nI (nx n p0))), (0, .ref (ad k)), (1, .int (nI (p0))), (2, .int (nI (b0)))]) hx hb dX8_pass_155 hl (k := 2) rfl (by exact nI_add j 1) (by decide) rfl (fun ls hl => ?_)
              refine lv_goto (tgt := 29) hx hb dX8_pass_158 (by decide) ?_
              exact ih29 (j + 1) o1 (by omega) (by first | exact passF_no ho1 hx0 hy0 c_83 | exact passF_go ho1 hx0 hy0 c_83 hag c_121 hcr) (by first | exact hob | exact Nat.xor_lt_two_pow hob (p64' hcrl)) (by omega) _ (lv_sub hl [0, 3, 4, 5, 6, 7, 8, 9] rfl)
          refine lv_if_ne (tgt := 67) hx hb dX8_pass_59 (by decide) (fun c_59 => ?_) (fun c_59 => ?_)
          · skip
            have c_59 := (not_congr (z_eq (by omega))).mp c_59
            refine lv_aload_n hx hb dX8_pass_67 rfl (lv_at hl 6 rfl) ?_
            refine lv_iload hx hb dX8_pass_68 (lv_at hl 3 rfl) ?_
            refine kVi (As := [.int (nI (da (nx n p0)))]) (rest := []) S hK hP (c_X8_previous l D cy ad N g k hk n da f h o hg hn4 hn8 (da (nx n p0)) (by omega)) cv_X8_78 hk hg ⟨_, _, rfl⟩ ⟨rfl, rfl⟩ rfl hl.1 rfl (Nat.le_of_ble_eq_true rfl) ⟨Nat.zero_le _, Nat.zero_le _⟩ dX8_pass_70 (fun r_70 q_70 => ?_)
            subst q_70
            exact J73 (pv n (da (nx n p0))) (by rw [pY, if_neg c_59]) _ (lv_sub hl [0, 1, 2, 3, 4, 5, 6, 7, 8] rfl)
          · skip
            have c_59 := (z_eq (by omega)).mp c_59
            refine lv_iload hx hb dX8_pass_62 (lv_at hl 3 rfl) ?_
            refine lv_goto (tgt := 73) hx hb dX8_pass_64 (by decide) ?_
            exact J73 (da (nx n p0)) (by rw [pY, if_pos c_59]) _ (lv_sub hl [0, 1, 2, 3, 4, 5, 6, 7, 8] rfl)
        refine lv_if_ne (tgt := 47) hx hb dX8_pass_39 (by decide) (fun c_39 => ?_) (fun c_39 => ?_)
        · skip
          have c_39 := (not_congr (z_eq (by omega))).mp c_39
          refine lv_aload_n hx hb dX8_pass_47 rfl (lv_at hl 5 rfl) ?_
          refine lv_iload hx hb dX8_pass_48 (lv_at hl 3 rfl) ?_
          refine kVi (As := [.int (nI (da p0))]) (rest := []) S hK hP (c_X8_previous l D cy ad N g k hk n da f h o hg hn4 hn8 (da p0) (by omega)) cv_X8_78 hk hg ⟨_, _, rfl⟩ ⟨rfl, rfl⟩ rfl hl.1 rfl (Nat.le_of_ble_eq_true rfl) ⟨Nat.zero_le _, Nat.zero_le _⟩ dX8_pass_50 (fun r_50 q_50 => ?_)
          subst q_50
          exact J53 (pv n (da p0)) (by rw [pX, if_neg c_39]) _ (lv_sub hl [0, 1, 2, 3, 4, 5, 6, 7] rfl)
        · skip
          have c_39 := (z_eq (by omega)).mp c_39
          refine lv_iload hx hb dX8_pass_42 (lv_at hl 3 rfl) ?_
          refine lv_goto (tgt := 53) hx hb dX8_pass_44 (by decide) ?_
          exact J53 (da p0) (by rw [pX, if_pos c_39]) _ (lv_sub hl [0, 1, 2, 3, 4, 5, 6, 7] rfl)
  exact L29 ((4 - 0) + 1) 0 o (by omega) rfl ho (Nat.lt_succ_self _) _ (lv_sub hl [0, 1, 2, 3, 4, 5, 6, 7] rfl)


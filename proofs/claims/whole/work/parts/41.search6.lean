set_option maxHeartbeats 4000000 in
set_option maxRecDepth 100000 in
theorem c_X2_find (l : Launch) (D : va_G) (cy : Nat → ClassId) (ad : Nat → Nat) (N : Nat) (g : Nat → va_E) (hinj : ∀ i j : Nat, i < N → j < N → ad i = ad j → i = j) (b : Nat) (hbN : b + 10 ≤ N) (gk : Int64) (sd : Int32) (mc : Nat) (go : Int32) (an9 : Int32) (hg : g b = .inr (2, [.ref (ad (b + 1)), .ref (ad (b + 2)), .ref (ad (b + 3)), .ref (ad (b + 4)), .ref (ad (b + 5)), .ref (ad (b + 6)), .ref (ad (b + 7)), .ref (ad (b + 8)), .ref (ad (b + 9)), .long gk, .int sd, .int (nI (mc)), .int go, .int an9])) (SE : Nat → Int64) (he9 : g (b + 1) = .inl (cy 2, 1500, .inr (.inl SE))) (OV : Nat → Int64) (ho9 : g (b + 2) = .inl (cy 2, 1500, .inr (.inl OV))) (KY : Nat → Int64) (hk9 : g (b + 3) = .inl (cy 2, 1500, .inr (.inl KY))) (PA : Nat → Int32) (hp9 : g (b + 4) = .inl (cy 1, 1500, .inl PA)) (AC : Nat → Int32) (ha9 : g (b + 5) = .inl (cy 1, 1500, .inl AC)) (SL : Nat → Nat) (hs9 : g (b + 6) = .inl (cy 1, 4096, .inl (fun x9 => nI (SL x9)))) (u : WT) (hu9 : g (b + 7) = .inr (8, [.int (nI (wn u)), .long (lN (sea (wd u) (wn u))), .int (nI (wf u)), .int (nI (wh u)), .long (lN (wo u))])) (hou : WOK u) (t : WT) (ht9 : g (b + 8) = .inr (8, [.int (nI (wn t)), .long (lN (sea (wd t) (wn t))), .int (nI (wf t)), .int (nI (wh t)), .long (lN (wo t))])) (hot : WOK t) (w : WT) (hw9 : g (b + 9) = .inr (8, [.int (nI (wn w)), .long (lN (sea (wd w) (wn w))), .int (nI (wf w)), .int (nI (wh w)), .long (lN (wo w))])) (hw : WOK w) (hsv : SINV SE OV KY PA AC SL go an9 sd mc gk u t) (k1 : Nat) (hk1 : k1 < N) (v : WT) (hv9 : g k1 = .inr (8, [.int (nI (wn v)), .long (lN (sea (wd v) (wn v))), .int (nI (wf v)), .int (nI (wh v)), .long (lN (wo v))])) (hov : WOK v) (hk1b : k1 < b ∨ b + 10 ≤ k1) (k2 : Nat) (hk2 : k2 < N) (x : WT) (hx9 : g k2 = .inr (8, [.int (nI (wn x)), .long (lN (sea (wd x) (wn x))), .int (nI (wf x)), .int (nI (wh x)), .long (lN (wo x))])) (hox : WOK x) (hk2b : k2 < b ∨ b + 10 ≤ k2) : Met l yX2_find (WS yX2_find cX2_find 4 none) (rmF 5 112) (PP [.ref (ad b), .ref (ad k1), .ref (ad k2)] D cy ad N g) (QV (fun g1 => ∃ (u2 : WT), ∃ (t2 : WT), ∃ (w2 : WT), ∃ (SE2 : Nat → Int64), ∃ (OV2 : Nat → Int64), ∃ (KY2 : Nat → Int64), ∃ (PA2 : Nat → Int32), ∃ (AC2 : Nat → Int32), ∃ (SL2 : Nat → Nat), ∃ (go2 : Int32), (WOK u2) ∧ (WOK t2) ∧ (WOK w2) ∧ (weq u2 v) ∧ (weq t2 x) ∧ (SRel SE2 OV2 KY2 PA2 AC2 SL2 go2 (srF u2 t2) (wn u2) (wf u2) (wh u2)) ∧ g1 b = .inr (2, [.ref (ad (b + 1)), .ref (ad (b + 2)), .ref (ad (b + 3)), .ref (ad (b + 4)), .ref (ad (b + 5)), .ref (ad (b + 6)), .ref (ad (b + 7)), .ref (ad (b + 8)), .ref (ad (b + 9)), .long (kyW t2), .int 1, .int (nI (qk (srF u2 t2))), .int go2, .int (ansF (srF u2 t2))]) ∧ g1 (b + 1) = .inl (cy 2, 1500, .inr (.inl SE2)) ∧ g1 (b + 2) = .inl (cy 2, 1500, .inr (.inl OV2)) ∧ g1 (b + 3) = .inl (cy 2, 1500, .inr (.inl KY2)) ∧ g1 (b + 4) = .inl (cy 1, 1500, .inl PA2) ∧ g1 (b + 5) = .inl (cy 1, 1500, .inl AC2) ∧ g1 (b + 6) = .inl (cy 1, 4096, .inl (fun x9 => nI (SL2 x9))) ∧ g1 (b + 7) = .inr (8, [.int (nI (wn u2)), .long (lN (sea (wd u2) (wn u2))), .int (nI (wf u2)), .int (nI (wh u2)), .long (lN (wo u2))]) ∧ g1 (b + 8) = .inr (8, [.int (nI (wn t2)), .long (lN (sea (wd t2) (wn t2))), .int (nI (wf t2)), .int (nI (wh t2)), .long (lN (wo t2))]) ∧ g1 (b + 9) = .inr (8, [.int (nI (wn w2)), .long (lN (sea (wd w2) (wn w2))), .int (nI (wf w2)), .int (nI (wh w2)), .long (lN (wo w2))]) ∧ (∀ j, j ≠ b → j ≠ (b + 1) → j ≠ (b + 2) → j ≠ (b + 3) → j ≠ (b + 4) → j ≠ (b + 5) → j ≠ (b + 6) → j ≠ (b + 7) → j ≠ (b + 8) → j ≠ (b + 9) → g1 j = g j)) D ad N) 0 0 (AA ad N) := by
  refine mentry (by decide) (Nat.le_of_ble_eq_true rfl) (fun p e s m below meth c ls S hr hlk hnm hP hK hl => ?_)
  have S : CallFix p m c cX2_find 4 s _ wsL_law RX2 := S
  have hx := S.1
  have hb := S.2.1
  have hl : lv_has ls 4 [(0, .ref (ad b)), (1, .ref (ad k1)), (2, .ref (ad k2))] := hl
  have hI : MD (AA ad N) ad N := MD.in hinj
  have hS : va_S (AA ad N) s.heap s.heap [] := va_S.rf
  have hfr : ∀ j : Nat, g j = g j := fun _ => rfl
  have hmc := hsv.1
  refine lv_aload_n hx hb dX2_find_0 rfl (lv_at hl 0 rfl) ?_
  refine mg S hK hP (by omega) hg fd_X2_44 rfl dX2_find_1 ?_
  have J30 : ∀ (ls : Array Slot), lv_has ls 4 [(0, .ref (ad b)), (1, .ref (ad k1)), (2, .ref (ad k2))] → W p l e (rmF 5 112) s m [.ref (ad b), .ref (ad k1), .ref (ad k2)].toArray below meth c s.heap [] 0 0 (MQ below (QV (fun g1 => ∃ (u2 : WT), ∃ (t2 : WT), ∃ (w2 : WT), ∃ (SE2 : Nat → Int64), ∃ (OV2 : Nat → Int64), ∃ (KY2 : Nat → Int64), ∃ (PA2 : Nat → Int32), ∃ (AC2 : Nat → Int32), ∃ (SL2 : Nat → Nat), ∃ (go2 : Int32), (WOK u2) ∧ (WOK t2) ∧ (WOK w2) ∧ (weq u2 v) ∧ (weq t2 x) ∧ (SRel SE2 OV2 KY2 PA2 AC2 SL2 go2 (srF u2 t2) (wn u2) (wf u2) (wh u2)) ∧ g1 b = .inr (2, [.ref (ad (b + 1)), .ref (ad (b + 2)), .ref (ad (b + 3)), .ref (ad (b + 4)), .ref (ad (b + 5)), .ref (ad (b + 6)), .ref (ad (b + 7)), .ref (ad (b + 8)), .ref (ad (b + 9)), .long (kyW t2), .int 1, .int (nI (qk (srF u2 t2))), .int go2, .int (ansF (srF u2 t2))]) ∧ g1 (b + 1) = .inl (cy 2, 1500, .inr (.inl SE2)) ∧ g1 (b + 2) = .inl (cy 2, 1500, .inr (.inl OV2)) ∧ g1 (b + 3) = .inl (cy 2, 1500, .inr (.inl KY2)) ∧ g1 (b + 4) = .inl (cy 1, 1500, .inl PA2) ∧ g1 (b + 5) = .inl (cy 1, 1500, .inl AC2) ∧ g1 (b + 6) = .inl (cy 1, 4096, .inl (fun x9 => nI (SL2 x9))) ∧ g1 (b + 7) = .inr (8, [.int (nI (wn u2)), .long (lN (sea (wd u2) (wn u2))), .int (nI (wf u2)), .int (nI (wh u2)), .long (lN (wo u2))]) ∧ g1 (b + 8) = .inr (8, [.int (nI (wn t2)), .long (lN (sea (wd t2) (wn t2))), .int (nI (wf t2)), .int (nI (wh t2)), .long (lN (wo t2))]) ∧ g1 (b + 9) = .inr (8, [.int (nI (wn w2)), .long (lN (sea (wd w2) (wn w2))), .int (nI (wf w2)), .int (nI (wh w2)), .long (lN (wo w2))]) ∧ (∀ j, j ≠ b → j ≠ (b + 1) → j ≠ (b + 2) → j ≠ (b + 3) → j ≠ (b + 4) → j ≠ (b + 5) → j ≠ (b + 6) → j ≠ (b + 7) → j ≠ (b + 8) → j ≠ (b + 9) → g1 j = g j)) D ad N) [.ref (ad b), .ref (ad k1), .ref (ad k2)].toArray s 0 0 (AA ad N)) (F0 m 30 ls []) := by
    intro ls hl
    refine lv_aload_n hx hb dX2_find_30 rfl (lv_at hl 0 rfl) ?_
    refine mg S hK hP (by omega) hg fd_X2_34 rfl dX2_find_31 ?_
    refine lv_aload_n hx hb dX2_find_34 rfl (lv_at hl 1 rfl) ?_
    refine kMv (As := [.ref (ad k1)]) (rest := []) S hK hP hS (fun _ h => h) (c_X8_becomeW l D cy ad N g hinj (b + 7) (by omega) u hu9 k1 hk1 v hv9 (by omega)) cv_X2_52 (by omega) hu9 ⟨_, _, rfl⟩ ⟨rfl, rfl⟩ rfl hl.1 rfl (Nat.le_of_ble_eq_true rfl) ⟨Nat.zero_le _, Nat.zero_le _⟩ dX2_find_35 (fun g_1 H locs q_1 hP hS => ?_)
    obtain ⟨h_b___7__1, f_1⟩ := q_1
    have hb_1 : g_1 b = .inr (2, [.ref (ad (b + 1)), .ref (ad (b + 2)), .ref (ad (b + 3)), .ref (ad (b + 4)), .ref (ad (b + 5)), .ref (ad (b + 6)), .ref (ad (b + 7)), .ref (ad (b + 8)), .ref (ad (b + 9)), .long gk, .int sd, .int (nI (mc)), .int go, .int an9]) := (f_1 b (by omega)).trans hg
    have hb___1_1 : g_1 (b + 1) = .inl (cy 2, 1500, .inr (.inl SE)) := (f_1 (b + 1) (by omega)).trans he9
    have hb___2_1 : g_1 (b + 2) = .inl (cy 2, 1500, .inr (.inl OV)) := (f_1 (b + 2) (by omega)).trans ho9
    have hb___3_1 : g_1 (b + 3) = .inl (cy 2, 1500, .inr (.inl KY)) := (f_1 (b + 3) (by omega)).trans hk9
    have hb___4_1 : g_1 (b + 4) = .inl (cy 1, 1500, .inl PA) := (f_1 (b + 4) (by omega)).trans hp9
    have hb___5_1 : g_1 (b + 5) = .inl (cy 1, 1500, .inl AC) := (f_1 (b + 5) (by omega)).trans ha9
    have hb___6_1 : g_1 (b + 6) = .inl (cy 1, 4096, .inl (fun x9 => nI (SL x9))) := (f_1 (b + 6) (by omega)).trans hs9
    have hb___8_1 : g_1 (b + 8) = .inr (8, [.int (nI (wn t)), .long (lN (sea (wd t) (wn t))), .int (nI (wf t)), .int (nI (wh t)), .long (lN (wo t))]) := (f_1 (b + 8) (by omega)).trans ht9
    have hb___9_1 : g_1 (b + 9) = .inr (8, [.int (nI (wn w)), .long (lN (sea (wd w) (wn w))), .int (nI (wf w)), .int (nI (wh w)), .long (lN (wo w))]) := (f_1 (b + 9) (by omega)).trans hw9
    have hk1_1 : g_1 k1 = .inr (8, [.int (nI (wn v)), .long (lN (sea (wd v) (wn v))), .int (nI (wf v)), .int (nI (wh v)), .long (lN (wo v))]) := (f_1 k1 (by omega)).trans hv9
    have hk2_1 : g_1 k2 = .inr (8, [.int (nI (wn x)), .long (lN (sea (wd x) (wn x))), .int (nI (wf x)), .int (nI (wh x)), .long (lN (wo x))]) := (f_1 k2 (by omega)).trans hx9
    have hfr_1 : ∀ j : Nat, j ≠ (b + 7) → g_1 j = g j := fun j n0 => (f_1 j n0).trans (hfr j )
    refine lv_aload_n hx hb dX2_find_38 rfl (lv_at hl 0 rfl) ?_
    refine mg S hK hP (by omega) hb_1 fd_X2_38 rfl dX2_find_39 ?_
    refine lv_aload_n hx hb dX2_find_42 rfl (lv_at hl 2 rfl) ?_
    refine kMv (As := [.ref (ad k2)]) (rest := []) S hK hP hS (fun _ h => h) (c_X8_becomeW l D cy ad N g_1 hinj (b + 8) (by omega) t hb___8_1 k2 hk2 x hk2_1 (by omega)) cv_X2_52 (by omega) hb___8_1 ⟨_, _, rfl⟩ ⟨rfl, rfl⟩ rfl hl.1 rfl (Nat.le_of_ble_eq_true rfl) ⟨Nat.zero_le _, Nat.zero_le _⟩ dX2_find_43 (fun g_2 H locs q_2 hP hS => ?_)
    obtain ⟨h_b___8__2, f_2⟩ := q_2
    have hb_2 : g_2 b = .inr (2, [.ref (ad (b + 1)), .ref (ad (b + 2)), .ref (ad (b + 3)), .ref (ad (b + 4)), .ref (ad (b + 5)), .ref (ad (b + 6)), .ref (ad (b + 7)), .ref (ad (b + 8)), .ref (ad (b + 9)), .long gk, .int sd, .int (nI (mc)), .int go, .int an9]) := (f_2 b (by omega)).trans hb_1
    have hb___1_2 : g_2 (b + 1) = .inl (cy 2, 1500, .inr (.inl SE)) := (f_2 (b + 1) (by omega)).trans hb___1_1
    have hb___2_2 : g_2 (b + 2) = .inl (cy 2, 1500, .inr (.inl OV)) := (f_2 (b + 2) (by omega)).trans hb___2_1
    have hb___3_2 : g_2 (b + 3) = .inl (cy 2, 1500, .inr (.inl KY)) := (f_2 (b + 3) (by omega)).trans hb___3_1
    have hb___4_2 : g_2 (b + 4) = .inl (cy 1, 1500, .inl PA) := (f_2 (b + 4) (by omega)).trans hb___4_1
    have hb___5_2 : g_2 (b + 5) = .inl (cy 1, 1500, .inl AC) := (f_2 (b + 5) (by omega)).trans hb___5_1
    have hb___6_2 : g_2 (b + 6) = .inl (cy 1, 4096, .inl (fun x9 => nI (SL x9))) := (f_2 (b + 6) (by omega)).trans hb___6_1
    have hb___7_2 : g_2 (b + 7) = .inr (8, [.int (nI (wn v)), .long (lN (sea (wd v) (wn v))), .int (nI (wf v)), .int (nI (wh v)), .long (lN (wo v))]) := (f_2 (b + 7) (by omega)).trans h_b___7__1
    have hb___9_2 : g_2 (b + 9) = .inr (8, [.int (nI (wn w)), .long (lN (sea (wd w) (wn w))), .int (nI (wf w)), .int (nI (wh w)), .long (lN (wo w))]) := (f_2 (b + 9) (by omega)).trans hb___9_1
    have hk1_2 : g_2 k1 = .inr (8, [.int (nI (wn v)), .long (lN (sea (wd v) (wn v))), .int (nI (wf v)), .int (nI (wh v)), .long (lN (wo v))]) := (f_2 k1 (by omega)).trans hk1_1
    have hk2_2 : g_2 k2 = .inr (8, [.int (nI (wn x)), .long (lN (sea (wd x) (wn x))), .int (nI (wf x)), .int (nI (wh x)), .long (lN (wo x))]) := (f_2 k2 (by omega)).trans hk2_1
    have hfr_2 : ∀ j : Nat, j ≠ (b + 7) → j ≠ (b + 8) → g_2 j = g j := fun j n0 n1 => (f_2 j n1).trans (hfr_1 j n0)
    refine lv_aload_n hx hb dX2_find_46 rfl (lv_at hl 0 rfl) ?_
    refine lv_iconst (v := nI (1)) hx hb dX2_find_47 (by decide) ?_
    refine mp S hK hP hI hS (by omega) hb_2 fd_X2_44 (nz_01 (by first | exact Or.inl rfl | exact Or.inr rfl)) (fz_01 (by first | exact Or.inl rfl | exact Or.inr rfl)) (Nat.le_of_ble_eq_true rfl) dX2_find_48 (fun g_3 H locs eg_3 hP hS => ?_)
    have hb_3 : g_3 b = .inr (2, [.ref (ad (b + 1)), .ref (ad (b + 2)), .ref (ad (b + 3)), .ref (ad (b + 4)), .ref (ad (b + 5)), .ref (ad (b + 6)), .ref (ad (b + 7)), .ref (ad (b + 8)), .ref (ad (b + 9)), .long gk, .int (nI (1)), .int (nI (mc)), .int go, .int an9]) := by rw [eg_3, va_up_self]; exact rfl
    have hb___1_3 : g_3 (b + 1) = .inl (cy 2, 1500, .inr (.inl SE)) := ((congrFun eg_3 _).trans (va_up_ne _ _ (by omega))).trans hb___1_2
    have hb___2_3 : g_3 (b + 2) = .inl (cy 2, 1500, .inr (.inl OV)) := ((congrFun eg_3 _).trans (va_up_ne _ _ (by omega))).trans hb___2_2
    have hb___3_3 : g_3 (b + 3) = .inl (cy 2, 1500, .inr (.inl KY)) := ((congrFun eg_3 _).trans (va_up_ne _ _ (by omega))).trans hb___3_2
    have hb___4_3 : g_3 (b + 4) = .inl (cy 1, 1500, .inl PA) := ((congrFun eg_3 _).trans (va_up_ne _ _ (by omega))).trans hb___4_2
    have hb___5_3 : g_3 (b + 5) = .inl (cy 1, 1500, .inl AC) := ((congrFun eg_3 _).trans (va_up_ne _ _ (by omega))).trans hb___5_2
    have hb___6_3 : g_3 (b + 6) = .inl (cy 1, 4096, .inl (fun x9 => nI (SL x9))) := ((congrFun eg_3 _).trans (va_up_ne _ _ (by omega))).trans hb___6_2
    have hb___7_3 : g_3 (b + 7) = .inr (8, [.int (nI (wn v)), .long (lN (sea (wd v) (wn v))), .int (nI (wf v)), .int (nI (wh v)), .long (lN (wo v))]) := ((congrFun eg_3 _).trans (va_up_ne _ _ (by omega))).trans hb___7_2
    have hb___8_3 : g_3 (b + 8) = .inr (8, [.int (nI (wn x)), .long (lN (sea (wd x) (wn x))), .int (nI (wf x)), .int (nI (wh x)), .long (lN (wo x))]) := ((congrFun eg_3 _).trans (va_up_ne _ _ (by omega))).trans h_b___8__2
    have hb___9_3 : g_3 (b + 9) = .inr (8, [.int (nI (wn w)), .long (lN (sea (wd w) (wn w))), .int (nI (wf w)), .int (nI (wh w)), .long (lN (wo w))]) := ((congrFun eg_3 _).trans (va_up_ne _ _ (by omega))).trans hb___9_2
    have hk1_3 : g_3 k1 = .inr (8, [.int (nI (wn v)), .long (lN (sea (wd v) (wn v))), .int (nI (wf v)), .int (nI (wh v)), .long (lN (wo v))]) := ((congrFun eg_3 _).trans (va_up_ne _ _ (by omega))).trans hk1_2
    have hk2_3 : g_3 k2 = .inr (8, [.int (nI (wn x)), .long (lN (sea (wd x) (wn x))), .int (nI (wf x)), .int (nI (wh x)), .long (lN (wo x))]) := ((congrFun eg_3 _).trans (va_up_ne _ _ (by omega))).trans hk2_2
    have hfr_3 : ∀ j : Nat, j ≠ (b + 7) → j ≠ (b + 8) → j ≠ b → g_3 j = g j := fun j n0 n1 n2 => ((congrFun eg_3 _).trans (va_up_ne _ _ n2)).trans (hfr_2 j n0 n1)
    refine lv_aload_n hx hb dX2_find_51 rfl (lv_at hl 0 rfl) ?_
    refine lv_aload_n hx hb dX2_find_52 rfl (lv_at hl 2 rfl) ?_
    refine kVl (As := []) (rest := [.ref (ad b)]) S hK hP (c_X8_seatsFromFirst l D cy ad N g_3 k2 hk2 (wn x) (wd x) (wf x) (wh x) (wo x) hk2_3 hox.1.1 hox.1.2 (wp x) hox.2.1) cv_X2_56 hk2 hk2_3 ⟨_, _, rfl⟩ ⟨rfl, rfl⟩ rfl hl.1 rfl (Nat.le_of_ble_eq_true rfl) ⟨Nat.zero_le _, Nat.zero_le _⟩ dX2_find_53 (fun r_53 q_53 => ?_)
    subst q_53
    refine tpl (rfl) ?_
    refine mp S hK hP hI hS (by omega) hb_3 fd_X2_60 rfl rfl (Nat.le_of_ble_eq_true rfl) dX2_find_56 (fun g_4 H locs eg_4 hP hS => ?_)
    have hb_4 : g_4 b = .inr (2, [.ref (ad (b + 1)), .ref (ad (b + 2)), .ref (ad (b + 3)), .ref (ad (b + 4)), .ref (ad (b + 5)), .ref (ad (b + 6)), .ref (ad (b + 7)), .ref (ad (b + 8)), .ref (ad (b + 9)), .long (kyW x), .int (nI (1)), .int (nI (mc)), .int go, .int an9]) := by rw [eg_4, va_up_self]; exact rfl
    have hb___1_4 : g_4 (b + 1) = .inl (cy 2, 1500, .inr (.inl SE)) := ((congrFun eg_4 _).trans (va_up_ne _ _ (by omega))).trans hb___1_3
    have hb___2_4 : g_4 (b + 2) = .inl (cy 2, 1500, .inr (.inl OV)) := ((congrFun eg_4 _).trans (va_up_ne _ _ (by omega))).trans hb___2_3
    have hb___3_4 : g_4 (b + 3) = .inl (cy 2, 1500, .inr (.inl KY)) := ((congrFun eg_4 _).trans (va_up_ne _ _ (by omega))).trans hb___3_3
    have hb___4_4 : g_4 (b + 4) = .inl (cy 1, 1500, .inl PA) := ((congrFun eg_4 _).trans (va_up_ne _ _ (by omega))).trans hb___4_3
    have hb___5_4 : g_4 (b + 5) = .inl (cy 1, 1500, .inl AC) := ((congrFun eg_4 _).trans (va_up_ne _ _ (by omega))).trans hb___5_3
    have hb___6_4 : g_4 (b + 6) = .inl (cy 1, 4096, .inl (fun x9 => nI (SL x9))) := ((congrFun eg_4 _).trans (va_up_ne _ _ (by omega))).trans hb___6_3
    have hb___7_4 : g_4 (b + 7) = .inr (8, [.int (nI (wn v)), .long (lN (sea (wd v) (wn v))), .int (nI (wf v)), .int (nI (wh v)), .long (lN (wo v))]) := ((congrFun eg_4 _).trans (va_up_ne _ _ (by omega))).trans hb___7_3
    have hb___8_4 : g_4 (b + 8) = .inr (8, [.int (nI (wn x)), .long (lN (sea (wd x) (wn x))), .int (nI (wf x)), .int (nI (wh x)), .long (lN (wo x))]) := ((congrFun eg_4 _).trans (va_up_ne _ _ (by omega))).trans hb___8_3
    have hb___9_4 : g_4 (b + 9) = .inr (8, [.int (nI (wn w)), .long (lN (sea (wd w) (wn w))), .int (nI (wf w)), .int (nI (wh w)), .long (lN (wo w))]) := ((congrFun eg_4 _).trans (va_up_ne _ _ (by omega))).trans hb___9_3
    have hk1_4 : g_4 k1 = .inr (8, [.int (nI (wn v)), .long (lN (sea (wd v) (wn v))), .int (nI (wf v)), .int (nI (wh v)), .long (lN (wo v))]) := ((congrFun eg_4 _).trans (va_up_ne _ _ (by omega))).trans hk1_3
    have hk2_4 : g_4 k2 = .inr (8, [.int (nI (wn x)), .long (lN (sea (wd x) (wn x))), .int (nI (wf x)), .int (nI (wh x)), .long (lN (wo x))]) := ((congrFun eg_4 _).trans (va_up_ne _ _ (by omega))).trans hk2_3
    have hfr_4 : ∀ j : Nat, j ≠ (b + 7) → j ≠ (b + 8) → j ≠ b → g_4 j = g j := fun j n0 n1 n2 => ((congrFun eg_4 _).trans (va_up_ne _ _ n2)).trans (hfr_3 j n0 n1 n2)
    refine lv_aload_n hx hb dX2_find_59 rfl (lv_at hl 0 rfl) ?_
    refine mg S hK hP (by omega) hb_4 fd_X2_28 rfl dX2_find_60 ?_
    refine lv_iconst (v := nI (0)) hx hb dX2_find_63 (by decide) ?_
    refine kSMv (As := [.ref (ad (b + 6)), .int (nI (0))]) (rest := []) S hK hP hS (fun _ h => h) (c_J7_fill_53178 l D cy ad N g_4 hinj (b + 6) (by omega) 4096 (fun x9 => nI (SL x9)) (nI (0)) hb___6_4 (by decide)) cs_X2_64 ⟨rfl, rfl⟩ rfl hl.1 rfl (Nat.le_of_ble_eq_true rfl) ⟨Nat.zero_le _, Nat.zero_le _⟩ dX2_find_64 (fun g_5 H locs q_5 hP hS => ?_)
    obtain ⟨h_b___6__5, f_5⟩ := q_5
    have hb_5 : g_5 b = .inr (2, [.ref (ad (b + 1)), .ref (ad (b + 2)), .ref (ad (b + 3)), .ref (ad (b + 4)), .ref (ad (b + 5)), .ref (ad (b + 6)), .ref (ad (b + 7)), .ref (ad (b + 8)), .ref (ad (b + 9)), .long (kyW x), .int (nI (1)), .int (nI (mc)), .int go, .int an9]) := (f_5 b (by omega)).trans hb_4
    have hb___1_5 : g_5 (b + 1) = .inl (cy 2, 1500, .inr (.inl SE)) := (f_5 (b + 1) (by omega)).trans hb___1_4
    have hb___2_5 : g_5 (b + 2) = .inl (cy 2, 1500, .inr (.inl OV)) := (f_5 (b + 2) (by omega)).trans hb___2_4
    have hb___3_5 : g_5 (b + 3) = .inl (cy 2, 1500, .inr (.inl KY)) := (f_5 (b + 3) (by omega)).trans hb___3_4
    have hb___4_5 : g_5 (b + 4) = .inl (cy 1, 1500, .inl PA) := (f_5 (b + 4) (by omega)).trans hb___4_4
    have hb___5_5 : g_5 (b + 5) = .inl (cy 1, 1500, .inl AC) := (f_5 (b + 5) (by omega)).trans hb___5_4
    have hb___7_5 : g_5 (b + 7) = .inr (8, [.int (nI (wn v)), .long (lN (sea (wd v) (wn v))), .int (nI (wf v)), .int (nI (wh v)), .long (lN (wo v))]) := (f_5 (b + 7) (by omega)).trans hb___7_4
    have hb___8_5 : g_5 (b + 8) = .inr (8, [.int (nI (wn x)), .long (lN (sea (wd x) (wn x))), .int (nI (wf x)), .int (nI (wh x)), .long (lN (wo x))]) := (f_5 (b + 8) (by omega)).trans hb___8_4
    have hb___9_5 : g_5 (b + 9) = .inr (8, [.int (nI (wn w)), .long (lN (sea (wd w) (wn w))), .int (nI (wf w)), .int (nI (wh w)), .long (lN (wo w))]) := (f_5 (b + 9) (by omega)).trans hb___9_4
    have hk1_5 : g_5 k1 = .inr (8, [.int (nI (wn v)), .long (lN (sea (wd v) (wn v))), .int (nI (wf v)), .int (nI (wh v)), .long (lN (wo v))]) := (f_5 k1 (by omega)).trans hk1_4
    have hk2_5 : g_5 k2 = .inr (8, [.int (nI (wn x)), .long (lN (sea (wd x) (wn x))), .int (nI (wf x)), .int (nI (wh x)), .long (lN (wo x))]) := (f_5 k2 (by omega)).trans hk2_4
    have hfr_5 : ∀ j : Nat, j ≠ (b + 7) → j ≠ (b + 8) → j ≠ b → j ≠ (b + 6) → g_5 j = g j := fun j n0 n1 n2 n3 => (f_5 j n3).trans (hfr_4 j n0 n1 n2)
    have hsl_6 : g_5 (b + 6) = .inl (cy 1, 4096, .inl (fun x9 => nI ((sl0 SL) x9))) := h_b___6__5.trans (by rw [sl0_e])
    refine lv_aload_n hx hb dX2_find_67 rfl (lv_at hl 0 rfl) ?_
    refine lv_iconst (v := nI (0)) hx hb dX2_find_68 (by decide) ?_
    refine mp S hK hP hI hS (by omega) hb_5 fd_X2_70 rfl rfl (Nat.le_of_ble_eq_true rfl) dX2_find_69 (fun g_7 H locs eg_7 hP hS => ?_)
    have hb_7 : g_7 b = .inr (2, [.ref (ad (b + 1)), .ref (ad (b + 2)), .ref (ad (b + 3)), .ref (ad (b + 4)), .ref (ad (b + 5)), .ref (ad (b + 6)), .ref (ad (b + 7)), .ref (ad (b + 8)), .ref (ad (b + 9)), .long (kyW x), .int (nI (1)), .int (nI (0)), .int go, .int an9]) := by rw [eg_7, va_up_self]; exact rfl
    have hb___1_7 : g_7 (b + 1) = .inl (cy 2, 1500, .inr (.inl SE)) := ((congrFun eg_7 _).trans (va_up_ne _ _ (by omega))).trans hb___1_5
    have hb___2_7 : g_7 (b + 2) = .inl (cy 2, 1500, .inr (.inl OV)) := ((congrFun eg_7 _).trans (va_up_ne _ _ (by omega))).trans hb___2_5
    have hb___3_7 : g_7 (b + 3) = .inl (cy 2, 1500, .inr (.inl KY)) := ((congrFun eg_7 _).trans (va_up_ne _ _ (by omega))).trans hb___3_5
    have hb___4_7 : g_7 (b + 4) = .inl (cy 1, 1500, .inl PA) := ((congrFun eg_7 _).trans (va_up_ne _ _ (by omega))).trans hb___4_5
    have hb___5_7 : g_7 (b + 5) = .inl (cy 1, 1500, .inl AC) := ((congrFun eg_7 _).trans (va_up_ne _ _ (by omega))).trans hb___5_5
    have hb___6_7 : g_7 (b + 6) = .inl (cy 1, 4096, .inl (fun x9 => nI ((sl0 SL) x9))) := ((congrFun eg_7 _).trans (va_up_ne _ _ (by omega))).trans hsl_6
    have hb___7_7 : g_7 (b + 7) = .inr (8, [.int (nI (wn v)), .long (lN (sea (wd v) (wn v))), .int (nI (wf v)), .int (nI (wh v)), .long (lN (wo v))]) := ((congrFun eg_7 _).trans (va_up_ne _ _ (by omega))).trans hb___7_5
    have hb___8_7 : g_7 (b + 8) = .inr (8, [.int (nI (wn x)), .long (lN (sea (wd x) (wn x))), .int (nI (wf x)), .int (nI (wh x)), .long (lN (wo x))]) := ((congrFun eg_7 _).trans (va_up_ne _ _ (by omega))).trans hb___8_5
    have hb___9_7 : g_7 (b + 9) = .inr (8, [.int (nI (wn w)), .long (lN (sea (wd w) (wn w))), .int (nI (wf w)), .int (nI (wh w)), .long (lN (wo w))]) := ((congrFun eg_7 _).trans (va_up_ne _ _ (by omega))).trans hb___9_5
    have hk1_7 : g_7 k1 = .inr (8, [.int (nI (wn v)), .long (lN (sea (wd v) (wn v))), .int (nI (wf v)), .int (nI (wh v)), .long (lN (wo v))]) := ((congrFun eg_7 _).trans (va_up_ne _ _ (by omega))).trans hk1_5
    have hk2_7 : g_7 k2 = .inr (8, [.int (nI (wn x)), .long (lN (sea (wd x) (wn x))), .int (nI (wf x)), .int (nI (wh x)), .long (lN (wo x))]) := ((congrFun eg_7 _).trans (va_up_ne _ _ (by omega))).trans hk2_5
    have hfr_7 : ∀ j : Nat, j ≠ (b + 7) → j ≠ (b + 8) → j ≠ b → j ≠ (b + 6) → g_7 j = g j := fun j n0 n1 n2 n3 => ((congrFun eg_7 _).trans (va_up_ne _ _ n2)).trans (hfr_5 j n0 n1 n2 n3)
    refine lv_aload_n hx hb dX2_find_72 rfl (lv_at hl 0 rfl) ?_
    refine lv_iconst (v := (-1)) hx hb dX2_find_73 (by decide) ?_
    refine mp S hK hP hI hS (by omega) hb_7 fd_X2_74 rfl rfl (Nat.le_of_ble_eq_true rfl) dX2_find_74 (fun g_8 H locs eg_8 hP hS => ?_)
    have hb_8 : g_8 b = .inr (2, [.ref (ad (b + 1)), .ref (ad (b + 2)), .ref (ad (b + 3)), .ref (ad (b + 4)), .ref (ad (b + 5)), .ref (ad (b + 6)), .ref (ad (b + 7)), .ref (ad (b + 8)), .ref (ad (b + 9)), .long (kyW x), .int (nI (1)), .int (nI (0)), .int (-1), .int an9]) := by rw [eg_8, va_up_self]; exact rfl
    have hb___1_8 : g_8 (b + 1) = .inl (cy 2, 1500, .inr (.inl SE)) := ((congrFun eg_8 _).trans (va_up_ne _ _ (by omega))).trans hb___1_7
    have hb___2_8 : g_8 (b + 2) = .inl (cy 2, 1500, .inr (.inl OV)) := ((congrFun eg_8 _).trans (va_up_ne _ _ (by omega))).trans hb___2_7
    have hb___3_8 : g_8 (b + 3) = .inl (cy 2, 1500, .inr (.inl KY)) := ((congrFun eg_8 _).trans (va_up_ne _ _ (by omega))).trans hb___3_7
    have hb___4_8 : g_8 (b + 4) = .inl (cy 1, 1500, .inl PA) := ((congrFun eg_8 _).trans (va_up_ne _ _ (by omega))).trans hb___4_7
    have hb___5_8 : g_8 (b + 5) = .inl (cy 1, 1500, .inl AC) := ((congrFun eg_8 _).trans (va_up_ne _ _ (by omega))).trans hb___5_7
    have hb___6_8 : g_8 (b + 6) = .inl (cy 1, 4096, .inl (fun x9 => nI ((sl0 SL) x9))) := ((congrFun eg_8 _).trans (va_up_ne _ _ (by omega))).trans hb___6_7
    have hb___7_8 : g_8 (b + 7) = .inr (8, [.int (nI (wn v)), .long (lN (sea (wd v) (wn v))), .int (nI (wf v)), .int (nI (wh v)), .long (lN (wo v))]) := ((congrFun eg_8 _).trans (va_up_ne _ _ (by omega))).trans hb___7_7
    have hb___8_8 : g_8 (b + 8) = .inr (8, [.int (nI (wn x)), .long (lN (sea (wd x) (wn x))), .int (nI (wf x)), .int (nI (wh x)), .long (lN (wo x))]) := ((congrFun eg_8 _).trans (va_up_ne _ _ (by omega))).trans hb___8_7
    have hb___9_8 : g_8 (b + 9) = .inr (8, [.int (nI (wn w)), .long (lN (sea (wd w) (wn w))), .int (nI (wf w)), .int (nI (wh w)), .long (lN (wo w))]) := ((congrFun eg_8 _).trans (va_up_ne _ _ (by omega))).trans hb___9_7
    have hk1_8 : g_8 k1 = .inr (8, [.int (nI (wn v)), .long (lN (sea (wd v) (wn v))), .int (nI (wf v)), .int (nI (wh v)), .long (lN (wo v))]) := ((congrFun eg_8 _).trans (va_up_ne _ _ (by omega))).trans hk1_7
    have hk2_8 : g_8 k2 = .inr (8, [.int (nI (wn x)), .long (lN (sea (wd x) (wn x))), .int (nI (wf x)), .int (nI (wh x)), .long (lN (wo x))]) := ((congrFun eg_8 _).trans (va_up_ne _ _ (by omega))).trans hk2_7
    have hfr_8 : ∀ j : Nat, j ≠ (b + 7) → j ≠ (b + 8) → j ≠ b → j ≠ (b + 6) → g_8 j = g j := fun j n0 n1 n2 n3 => ((congrFun eg_8 _).trans (va_up_ne _ _ n2)).trans (hfr_7 j n0 n1 n2 n3)
    refine lv_aload_n hx hb dX2_find_77 rfl (lv_at hl 0 rfl) ?_
    refine mg S hK hP (by omega) hb_8 fd_X2_41 rfl dX2_find_78 ?_
    refine lv_aload_n hx hb dX2_find_81 rfl (lv_at hl 1 rfl) ?_
    refine kMv (As := [.ref (ad k1)]) (rest := []) S hK hP hS (fun _ h => h) (c_X8_becomeW l D cy ad N g_8 hinj (b + 9) (by omega) w hb___9_8 k1 hk1 v hk1_8 (by omega)) cv_X2_52 (by omega) hb___9_8 ⟨_, _, rfl⟩ ⟨rfl, rfl⟩ rfl hl.1 rfl (Nat.le_of_ble_eq_true rfl) ⟨Nat.zero_le _, Nat.zero_le _⟩ dX2_find_82 (fun g_9 H locs q_9 hP hS => ?_)
    obtain ⟨h_b___9__9, f_9⟩ := q_9
    have hb_9 : g_9 b = .inr (2, [.ref (ad (b + 1)), .ref (ad (b + 2)), .ref (ad (b + 3)), .ref (ad (b + 4)), .ref (ad (b + 5)), .ref (ad (b + 6)), .ref (ad (b + 7)), .ref (ad (b + 8)), .ref (ad (b + 9)), .long (kyW x), .int (nI (1)), .int (nI (0)), .int (-1), .int an9]) := (f_9 b (by omega)).trans hb_8
    have hb___1_9 : g_9 (b + 1) = .inl (cy 2, 1500, .inr (.inl SE)) := (f_9 (b + 1) (by omega)).trans hb___1_8
    have hb___2_9 : g_9 (b + 2) = .inl (cy 2, 1500, .inr (.inl OV)) := (f_9 (b + 2) (by omega)).trans hb___2_8
    have hb___3_9 : g_9 (b + 3) = .inl (cy 2, 1500, .inr (.inl KY)) := (f_9 (b + 3) (by omega)).trans hb___3_8
    have hb___4_9 : g_9 (b + 4) = .inl (cy 1, 1500, .inl PA) := (f_9 (b + 4) (by omega)).trans hb___4_8
    have hb___5_9 : g_9 (b + 5) = .inl (cy 1, 1500, .inl AC) := (f_9 (b + 5) (by omega)).trans hb___5_8
    have hb___6_9 : g_9 (b + 6) = .inl (cy 1, 4096, .inl (fun x9 => nI ((sl0 SL) x9))) := (f_9 (b + 6) (by omega)).trans hb___6_8
    have hb___7_9 : g_9 (b + 7) = .inr (8, [.int (nI (wn v)), .long (lN (sea (wd v) (wn v))), .int (nI (wf v)), .int (nI (wh v)), .long (lN (wo v))]) := (f_9 (b + 7) (by omega)).trans hb___7_8
    have hb___8_9 : g_9 (b + 8) = .inr (8, [.int (nI (wn x)), .long (lN (sea (wd x) (wn x))), .int (nI (wf x)), .int (nI (wh x)), .long (lN (wo x))]) := (f_9 (b + 8) (by omega)).trans hb___8_8
    have hk1_9 : g_9 k1 = .inr (8, [.int (nI (wn v)), .long (lN (sea (wd v) (wn v))), .int (nI (wf v)), .int (nI (wh v)), .long (lN (wo v))]) := (f_9 k1 (by omega)).trans hk1_8
    have hk2_9 : g_9 k2 = .inr (8, [.int (nI (wn x)), .long (lN (sea (wd x) (wn x))), .int (nI (wf x)), .int (nI (wh x)), .long (lN (wo x))]) := (f_9 k2 (by omega)).trans hk2_8
    have hfr_9 : ∀ j : Nat, j ≠ (b + 7) → j ≠ (b + 8) → j ≠ b → j ≠ (b + 6) → j ≠ (b + 9) → g_9 j = g j := fun j n0 n1 n2 n3 n4 => (f_9 j n4).trans (hfr_8 j n0 n1 n2 n3)
    refine lv_aload_n hx hb dX2_find_85 rfl (lv_at hl 0 rfl) ?_
    refine lv_iconst (v := (-1)) hx hb dX2_find_86 (by decide) ?_
    refine lv_iconst (v := nI (0)) hx hb dX2_find_87 (by decide) ?_
    refine kMv (As := [.int (-1), .int (nI (0))]) (rest := []) S hK hP hS (fun _ h => h) (c_X2_meet l D cy ad N g_9 hinj b (by omega) (kyW x) (nI (1)) (-1) an9 (Q0 v) (wn v) (wf v) (wh v) hb_9 SE hb___1_9 OV hb___2_9 KY hb___3_9 PA hb___4_9 AC hb___5_9 (sl0 SL) hb___6_9 (srel0 (u := v) (n := wn v) (f := wf v) (h := wh v) sl0_0) x hb___8_9 hox v h_b___9__9 hov rfl rfl rfl (-1) 0 rfl (Or.inl rfl) 0 (by decide)) cv_X2_77 (by omega) hb_9 ⟨_, _, rfl⟩ ⟨rfl, rfl⟩ rfl hl.1 rfl (Nat.le_of_ble_eq_true rfl) ⟨Nat.zero_le _, Nat.zero_le _⟩ dX2_find_88 (fun g_10 H locs q_10 hP hS => ?_)
    obtain ⟨SE2_10, OV2_10, KY2_10, PA2_10, AC2_10, SL2_10, go2_10, hrel2_10, hb_10, hb___1_10, hb___2_10, hb___3_10, hb___4_10, hb___5_10, hb___6_10, f_10⟩ := q_10
    have hb___7_10 : g_10 (b + 7) = .inr (8, [.int (nI (wn v)), .long (lN (sea (wd v) (wn v))), .int (nI (wf v)), .int (nI (wh v)), .long (lN (wo v))]) := (f_10 (b + 7) (by omega) (by omega) (by omega) (by omega) (by omega) (by omega) (by omega)).trans hb___7_9
    have hb___8_10 : g_10 (b + 8) = .inr (8, [.int (nI (wn x)), .long (lN (sea (wd x) (wn x))), .int (nI (wf x)), .int (nI (wh x)), .long (lN (wo x))]) := (f_10 (b + 8) (by omega) (by omega) (by omega) (by omega) (by omega) (by omega) (by omega)).trans hb___8_9
    have hb___9_10 : g_10 (b + 9) = .inr (8, [.int (nI (wn v)), .long (lN (sea (wd v) (wn v))), .int (nI (wf v)), .int (nI (wh v)), .long (lN (wo v))]) := (f_10 (b + 9) (by omega) (by omega) (by omega) (by omega) (by omega) (by omega) (by omega)).trans h_b___9__9
    have hk1_10 : g_10 k1 = .inr (8, [.int (nI (wn v)), .long (lN (sea (wd v) (wn v))), .int (nI (wf v)), .int (nI (wh v)), .long (lN (wo v))]) := (f_10 k1 (by omega) (by omega) (by omega) (by omega) (by omega) (by omega) (by omega)).trans hk1_9
    have hk2_10 : g_10 k2 = .inr (8, [.int (nI (wn x)), .long (lN (sea (wd x) (wn x))), .int (nI (wf x)), .int (nI (wh x)), .long (lN (wo x))]) := (f_10 k2 (by omega) (by omega) (by omega) (by omega) (by omega) (by omega) (by omega)).trans hk2_9
    have hfr_10 : ∀ j : Nat, j ≠ (b + 7) → j ≠ (b + 8) → j ≠ b → j ≠ (b + 6) → j ≠ (b + 9) → j ≠ (b + 1) → j ≠ (b + 2) → j ≠ (b + 3) → j ≠ (b + 4) → j ≠ (b + 5) → g_10 j = g j := fun j n0 n1 n2 n3 n4 n5 n6 n7 n8 n9 => (f_10 j n2 n5 n6 n7 n8 n9 n3).trans (hfr_9 j n0 n1 n2 n3 n4)
    refine lv_iconst (v := nI (0)) hx hb dX2_find_91 (by decide) ?_
    refine lv_istore_n (lv' := [(3, .int (nI (0))), (0, .ref (ad b)), (1, .ref (ad k1)), (2, .ref (ad k2))]) hx hb dX2_find_92 rfl hl (by decide) rfl (fun ls hl => ?_)
    have L93 : ∀ (fu : Nat) (m9 : Nat) (SE3 OV3 KY3 : Nat → Int64) (PA3 AC3 : Nat → Int32) (SL3 : Nat → Nat) (go3 : Int32) (w3 : WT), (m9 ≤ 1500) → (SRel SE3 OV3 KY3 PA3 AC3 SL3 go3 (srS x (kyW x) v m9) (wn v) (wf v) (wh v)) → (WOK w3 ∧ wn w3 = wn v ∧ wf w3 = wf v ∧ wh w3 = wh v) → (1500 - m9) < fu → ∀ (g_11 : Nat → va_E) (H : Heap) (locs : List Loc), g_11 b = .inr (2, [.ref (ad (b + 1)), .ref (ad (b + 2)), .ref (ad (b + 3)), .ref (ad (b + 4)), .ref (ad (b + 5)), .ref (ad (b + 6)), .ref (ad (b + 7)), .ref (ad (b + 8)), .ref (ad (b + 9)), .long (kyW x), .int 1, .int (nI (qk (srS x (kyW x) v m9))), .int go3, .int an9]) → g_11 (b + 1) = .inl (cy 2, 1500, .inr (.inl SE3)) → g_11 (b + 2) = .inl (cy 2, 1500, .inr (.inl OV3)) → g_11 (b + 3) = .inl (cy 2, 1500, .inr (.inl KY3)) → g_11 (b + 4) = .inl (cy 1, 1500, .inl PA3) → g_11 (b + 5) = .inl (cy 1, 1500, .inl AC3) → g_11 (b + 6) = .inl (cy 1, 4096, .inl (fun x9 => nI (SL3 x9))) → g_11 (b + 7) = .inr (8, [.int (nI (wn v)), .long (lN (sea (wd v) (wn v))), .int (nI (wf v)), .int (nI (wh v)), .long (lN (wo v))]) → g_11 (b + 8) = .inr (8, [.int (nI (wn x)), .long (lN (sea (wd x) (wn x))), .int (nI (wf x)), .int (nI (wh x)), .long (lN (wo x))]) → g_11 (b + 9) = .inr (8, [.int (nI (wn w3)), .long (lN (sea (wd w3) (wn w3))), .int (nI (wf w3)), .int (nI (wh w3)), .long (lN (wo w3))]) → (∀ j : Nat, j ≠ (b + 7) → j ≠ (b + 8) → j ≠ b → j ≠ (b + 6) → j ≠ (b + 9) → j ≠ (b + 1) → j ≠ (b + 2) → j ≠ (b + 3) → j ≠ (b + 4) → j ≠ (b + 5) → g_11 j = g j) → MM D ad N g_11 H → va_S (AA ad N) s.heap H locs → ∀ (ls : Array Slot), lv_has ls 4 [(3, .int (nI (m9))), (0, .ref (ad b)), (1, .ref (ad k1)), (2, .ref (ad k2))] → W p l e (rmF 5 112) s m [.ref (ad b), .ref (ad k1), .ref (ad k2)].toArray below meth c H locs 0 0 (MQ below (QV (fun g1 => ∃ (u2 : WT), ∃ (t2 : WT), ∃ (w2 : WT), ∃ (SE2 : Nat → Int64), ∃ (OV2 : Nat → Int64), ∃ (KY2 : Nat → Int64), ∃ (PA2 : Nat → Int32), ∃ (AC2 : Nat → Int32), ∃ (SL2 : Nat → Nat), ∃ (go2 : Int32), (WOK u2) ∧ (WOK t2) ∧ (WOK w2) ∧ (weq u2 v) ∧ (weq t2 x) ∧ (SRel SE2 OV2 KY2 PA2 AC2 SL2 go2 (srF u2 t2) (wn u2) (wf u2) (wh u2)) ∧ g1 b = .inr (2, [.ref (ad (b + 1)), .ref (ad (b + 2)), .ref (ad (b + 3)), .ref (ad (b + 4)), .ref (ad (b + 5)), .ref (ad (b + 6)), .ref (ad (b + 7)), .ref (ad (b + 8)), .ref (ad (b + 9)), .long (kyW t2), .int 1, .int (nI (qk (srF u2 t2))), .int go2, .int (ansF (srF u2 t2))]) ∧ g1 (b + 1) = .inl (cy 2, 1500, .inr (.inl SE2)) ∧ g1 (b + 2) = .inl (cy 2, 1500, .inr (.inl OV2)) ∧ g1 (b + 3) = .inl (cy 2, 1500, .inr (.inl KY2)) ∧ g1 (b + 4) = .inl (cy 1, 1500, .inl PA2) ∧ g1 (b + 5) = .inl (cy 1, 1500, .inl AC2) ∧ g1 (b + 6) = .inl (cy 1, 4096, .inl (fun x9 => nI (SL2 x9))) ∧ g1 (b + 7) = .inr (8, [.int (nI (wn u2)), .long (lN (sea (wd u2) (wn u2))), .int (nI (wf u2)), .int (nI (wh u2)), .long (lN (wo u2))]) ∧ g1 (b + 8) = .inr (8, [.int (nI (wn t2)), .long (lN (sea (wd t2) (wn t2))), .int (nI (wf t2)), .int (nI (wh t2)), .long (lN (wo t2))]) ∧ g1 (b + 9) = .inr (8, [.int (nI (wn w2)), .long (lN (sea (wd w2) (wn w2))), .int (nI (wf w2)), .int (nI (wh w2)), .long (lN (wo w2))]) ∧ (∀ j, j ≠ b → j ≠ (b + 1) → j ≠ (b + 2) → j ≠ (b + 3) → j ≠ (b + 4) → j ≠ (b + 5) → j ≠ (b + 6) → j ≠ (b + 7) → j ≠ (b + 8) → j ≠ (b + 9) → g1 j = g j)) D ad N) [.ref (ad b), .ref (ad k1), .ref (ad k2)].toArray s 0 0 (AA ad N)) (F0 m 93 ls []) := by
      intro fu
      induction fu with
      | zero => intro m9 SE3 OV3 KY3 PA3 AC3 SL3 go3 w3 hm9 hrel3 hw3 hms g_11 H locs hb_11 hb___1_11 hb___2_11 hb___3_11 hb___4_11 hb___5_11 hb___6_11 hb___7_11 hb___8_11 hb___9_11 hfr_11 hP hS ls hl; exact absurd hms (Nat.not_lt_zero _)
      | succ fu ih93 =>
        intro m9 SE3 OV3 KY3 PA3 AC3 SL3 go3 w3 hm9 hrel3 hw3 hms g_11 H locs hb_11 hb___1_11 hb___2_11 hb___3_11 hb___4_11 hb___5_11 hb___6_11 hb___7_11 hb___8_11 hb___9_11 hfr_11 hP hS ls hl
        have hk1_11 : g_11 k1 = .inr (8, [.int (nI (wn v)), .long (lN (sea (wd v) (wn v))), .int (nI (wf v)), .int (nI (wh v)), .long (lN (wo v))]) := (hfr_11 k1 (by omega) (by omega) (by omega) (by omega) (by omega) (by omega) (by omega) (by omega) (by omega) (by omega)).trans hv9
        have hk2_11 : g_11 k2 = .inr (8, [.int (nI (wn x)), .long (lN (sea (wd x) (wn x))), .int (nI (wf x)), .int (nI (wh x)), .long (lN (wo x))]) := (hfr_11 k2 (by omega) (by omega) (by omega) (by omega) (by omega) (by omega) (by omega) (by omega) (by omega) (by omega)).trans hx9
        have hqb := hrel3.1
        refine lv_iload_n hx hb dX2_find_93 rfl (lv_at hl 0 rfl) ?_
        refine lv_aload_n hx hb dX2_find_94 rfl (lv_at hl 1 rfl) ?_
        refine mg S hK hP (by omega) hb_11 fd_X2_70 rfl dX2_find_95 ?_
        refine lv_icmp_ge (tgt := 126) hx hb dX2_find_98 (by decide) (fun c_98 => ?_) (fun c_98 => ?_)
        · skip
          have c_98 := (nI_leI (by omega) (by omega)).mp c_98
          have hF9 : srF v x = srS x (kyW x) v m9 := srF_e (by omega) (Or.inr (fun q => by omega))
          refine lv_aload_n hx hb dX2_find_126 rfl (lv_at hl 1 rfl) ?_
          refine lv_aload_n hx hb dX2_find_127 rfl (lv_at hl 1 rfl) ?_
          refine mg S hK hP (by omega) hb_11 fd_X2_74 rfl dX2_find_128 ?_
          refine lv_if_lt (tgt := 141) hx hb dX2_find_131 (by decide) (fun c_131 => ?_) (fun c_131 => ?_)
          · skip
            have hgl : qg (srS x (kyW x) v m9) = 0 := (srel_g hrel3).mp c_131
            refine lv_aload_n hx hb dX2_find_141 rfl (lv_at hl 1 rfl) ?_
            refine mg S hK hP (by omega) hb_11 fd_X2_70 rfl dX2_find_142 ?_
            refine lv_sipush (v := nI (1500)) hx hb dX2_find_145 (by decide) ?_
            refine lv_icmp_lt (tgt := 156) hx hb dX2_find_148 (by decide) (fun c_148 => ?_) (fun c_148 => ?_)
            · skip
              have c_148 := (nI_ltI (by omega) (by omega)).mp c_148
              have hA9 := ansF_n hgl (by omega)
              refine lv_bipush (v := (-4)) hx hb dX2_find_156 (by decide) ?_
              refine mp S hK hP hI hS (by omega) hb_11 fd_X2_93 rfl rfl (Nat.le_of_ble_eq_true rfl) dX2_find_158 (fun g_12 H locs eg_12 hP hS => ?_)
              have hb_12 : g_12 b = .inr (2, [.ref (ad (b + 1)), .ref (ad (b + 2)), .ref (ad (b + 3)), .ref (ad (b + 4)), .ref (ad (b + 5)), .ref (ad (b + 6)), .ref (ad (b + 7)), .ref (ad (b + 8)), .ref (ad (b + 9)), .long (kyW x), .int 1, .int (nI (qk (srS x (kyW x) v m9))), .int go3, .int (-4)]) := by rw [eg_12, va_up_self]; exact rfl
              have hb___1_12 : g_12 (b + 1) = .inl (cy 2, 1500, .inr (.inl SE3)) := ((congrFun eg_12 _).trans (va_up_ne _ _ (by omega))).trans hb___1_11
              have hb___2_12 : g_12 (b + 2) = .inl (cy 2, 1500, .inr (.inl OV3)) := ((congrFun eg_12 _).trans (va_up_ne _ _ (by omega))).trans hb___2_11
              have hb___3_12 : g_12 (b + 3) = .inl (cy 2, 1500, .inr (.inl KY3)) := ((congrFun eg_12 _).trans (va_up_ne _ _ (by omega))).trans hb___3_11
              have hb___4_12 : g_12 (b + 4) = .inl (cy 1, 1500, .inl PA3) := ((congrFun eg_12 _).trans (va_up_ne _ _ (by omega))).trans hb___4_11
              have hb___5_12 : g_12 (b + 5) = .inl (cy 1, 1500, .inl AC3) := ((congrFun eg_12 _).trans (va_up_ne _ _ (by omega))).trans hb___5_11
              have hb___6_12 : g_12 (b + 6) = .inl (cy 1, 4096, .inl (fun x9 => nI (SL3 x9))) := ((congrFun eg_12 _).trans (va_up_ne _ _ (by omega))).trans hb___6_11
              have hb___7_12 : g_12 (b + 7) = .inr (8, [.int (nI (wn v)), .long (lN (sea (wd v) (wn v))), .int (nI (wf v)), .int (nI (wh v)), .long (lN (wo v))]) := ((congrFun eg_12 _).trans (va_up_ne _ _ (by omega))).trans hb___7_11
              have hb___8_12 : g_12 (b + 8) = .inr (8, [.int (nI (wn x)), .long (lN (sea (wd x) (wn x))), .int (nI (wf x)), .int (nI (wh x)), .long (lN (wo x))]) := ((congrFun eg_12 _).trans (va_up_ne _ _ (by omega))).trans hb___8_11
              have hb___9_12 : g_12 (b + 9) = .inr (8, [.int (nI (wn w3)), .long (lN (sea (wd w3) (wn w3))), .int (nI (wf w3)), .int (nI (wh w3)), .long (lN (wo w3))]) := ((congrFun eg_12 _).trans (va_up_ne _ _ (by omega))).trans hb___9_11
              have hk1_12 : g_12 k1 = .inr (8, [.int (nI (wn v)), .long (lN (sea (wd v) (wn v))), .int (nI (wf v)), .int (nI (wh v)), .long (lN (wo v))]) := ((congrFun eg_12 _).trans (va_up_ne _ _ (by omega))).trans hk1_11
              have hk2_12 : g_12 k2 = .inr (8, [.int (nI (wn x)), .long (lN (sea (wd x) (wn x))), .int (nI (wf x)), .int (nI (wh x)), .long (lN (wo x))]) := ((congrFun eg_12 _).trans (va_up_ne _ _ (by omega))).trans hk2_11
              have hfr_12 : ∀ j : Nat, j ≠ (b + 7) → j ≠ (b + 8) → j ≠ b → j ≠ (b + 6) → j ≠ (b + 9) → j ≠ (b + 1) → j ≠ (b + 2) → j ≠ (b + 3) → j ≠ (b + 4) → j ≠ (b + 5) → g_12 j = g j := fun j n0 n1 n2 n3 n4 n5 n6 n7 n8 n9 => ((congrFun eg_12 _).trans (va_up_ne _ _ n2)).trans (hfr_11 j n0 n1 n2 n3 n4 n5 n6 n7 n8 n9)
              exact rMv S hr hlk hP hS ⟨v, x, w3, SE3, OV3, KY3, PA3, AC3, SL3, go3, hov, hox, hw3.1, weq_rfl, weq_rfl, (by rw [hF9]; exact hrel3), (by rw [hF9, hA9]; exact hb_12), hb___1_12, hb___2_12, hb___3_12, hb___4_12, hb___5_12, hb___6_12, hb___7_12, hb___8_12, hb___9_12, (fun j n0 n1 n2 n3 n4 n5 n6 n7 n8 n9 => hfr_12 j (by omega) (by omega) (by omega) (by omega) (by omega) (by omega) (by omega) (by omega) (by omega) (by omega))⟩ dX2_find_161
            · skip
              have c_148 := (not_congr (nI_ltI (by omega) (by omega))).mp c_148
              have hA9 := ansF_s hgl (by omega)
              refine lv_bipush (v := (-6)) hx hb dX2_find_151 (by decide) ?_
              refine lv_goto (tgt := 158) hx hb dX2_find_153 (by decide) ?_
              refine mp S hK hP hI hS (by omega) hb_11 fd_X2_93 rfl rfl (Nat.le_of_ble_eq_true rfl) dX2_find_158 (fun g_13 H locs eg_13 hP hS => ?_)
              have hb_13 : g_13 b = .inr (2, [.ref (ad (b + 1)), .ref (ad (b + 2)), .ref (ad (b + 3)), .ref (ad (b + 4)), .ref (ad (b + 5)), .ref (ad (b + 6)), .ref (ad (b + 7)), .ref (ad (b + 8)), .ref (ad (b + 9)), .long (kyW x), .int 1, .int (nI (qk (srS x (kyW x) v m9))), .int go3, .int (-6)]) := by rw [eg_13, va_up_self]; exact rfl
              have hb___1_13 : g_13 (b + 1) = .inl (cy 2, 1500, .inr (.inl SE3)) := ((congrFun eg_13 _).trans (va_up_ne _ _ (by omega))).trans hb___1_11
              have hb___2_13 : g_13 (b + 2) = .inl (cy 2, 1500, .inr (.inl OV3)) := ((congrFun eg_13 _).trans (va_up_ne _ _ (by omega))).trans hb___2_11
              have hb___3_13 : g_13 (b + 3) = .inl (cy 2, 1500, .inr (.inl KY3)) := ((congrFun eg_13 _).trans (va_up_ne _ _ (by omega))).trans hb___3_11
              have hb___4_13 : g_13 (b + 4) = .inl (cy 1, 1500, .inl PA3) := ((congrFun eg_13 _).trans (va_up_ne _ _ (by omega))).trans hb___4_11
              have hb___5_13 : g_13 (b + 5) = .inl (cy 1, 1500, .inl AC3) := ((congrFun eg_13 _).trans (va_up_ne _ _ (by omega))).trans hb___5_11
              have hb___6_13 : g_13 (b + 6) = .inl (cy 1, 4096, .inl (fun x9 => nI (SL3 x9))) := ((congrFun eg_13 _).trans (va_up_ne _ _ (by omega))).trans hb___6_11
              have hb___7_13 : g_13 (b + 7) = .inr (8, [.int (nI (wn v)), .long (lN (sea (wd v) (wn v))), .int (nI (wf v)), .int (nI (wh v)), .long (lN (wo v))]) := ((congrFun eg_13 _).trans (va_up_ne _ _ (by omega))).trans hb___7_11
              have hb___8_13 : g_13 (b + 8) = .inr (8, [.int (nI (wn x)), .long (lN (sea (wd x) (wn x))), .int (nI (wf x)), .int (nI (wh x)), .long (lN (wo x))]) := ((congrFun eg_13 _).trans (va_up_ne _ _ (by omega))).trans hb___8_11
              have hb___9_13 : g_13 (b + 9) = .inr (8, [.int (nI (wn w3)), .long (lN (sea (wd w3) (wn w3))), .int (nI (wf w3)), .int (nI (wh w3)), .long (lN (wo w3))]) := ((congrFun eg_13 _).trans (va_up_ne _ _ (by omega))).trans hb___9_11
              have hk1_13 : g_13 k1 = .inr (8, [.int (nI (wn v)), .long (lN (sea (wd v) (wn v))), .int (nI (wf v)), .int (nI (wh v)), .long (lN (wo v))]) := ((congrFun eg_13 _).trans (va_up_ne _ _ (by omega))).trans hk1_11
              have hk2_13 : g_13 k2 = .inr (8, [.int (nI (wn x)), .long (lN (sea (wd x) (wn x))), .int (nI (wf x)), .int (nI (wh x)), .long (lN (wo x))]) := ((congrFun eg_13 _).trans (va_up_ne _ _ (by omega))).trans hk2_11
              have hfr_13 : ∀ j : Nat, j ≠ (b + 7) → j ≠ (b + 8) → j ≠ b → j ≠ (b + 6) → j ≠ (b + 9) → j ≠ (b + 1) → j ≠ (b + 2) → j ≠ (b + 3) → j ≠ (b + 4) → j ≠ (b + 5) → g_13 j = g j := fun j n0 n1 n2 n3 n4 n5 n6 n7 n8 n9 => ((congrFun eg_13 _).trans (va_up_ne _ _ n2)).trans (hfr_11 j n0 n1 n2 n3 n4 n5 n6 n7 n8 n9)
              exact rMv S hr hlk hP hS ⟨v, x, w3, SE3, OV3, KY3, PA3, AC3, SL3, go3, hov, hox, hw3.1, weq_rfl, weq_rfl, (by rw [hF9]; exact hrel3), (by rw [hF9, hA9]; exact hb_13), hb___1_13, hb___2_13, hb___3_13, hb___4_13, hb___5_13, hb___6_13, hb___7_13, hb___8_13, hb___9_13, (fun j n0 n1 n2 n3 n4 n5 n6 n7 n8 n9 => hfr_13 j (by omega) (by omega) (by omega) (by omega) (by omega) (by omega) (by omega) (by omega) (by omega) (by omega))⟩ dX2_find_161
          · skip
            have hgl : qg (srS x (kyW x) v m9) ≠ 0 := fun q => c_131 ((srel_g hrel3).mpr q)
            have hA9 := ansF_y hgl
            refine lv_aload_n hx hb dX2_find_134 rfl (lv_at hl 1 rfl) ?_
            refine kVi (As := []) (rest := [.ref (ad b)]) S hK hP (c_X2_lengthOfWay l D cy ad N g_11 b (by omega) (kyW x) 1 go3 an9 (srS x (kyW x) v m9) (wn v) (wf v) (wh v) hb_11 SE3 OV3 KY3 PA3 hb___4_11 AC3 hb___5_11 SL3 hrel3 hgl) cv_X2_89 (by omega) hb_11 ⟨_, _, rfl⟩ ⟨rfl, rfl⟩ rfl hl.1 rfl (Nat.le_of_ble_eq_true rfl) ⟨Nat.zero_le _, Nat.zero_le _⟩ dX2_find_135 (fun r_135 q_135 => ?_)
            subst q_135
            refine lv_goto (tgt := 158) hx hb dX2_find_138 (by decide) ?_
            refine mp S hK hP hI hS (by omega) hb_11 fd_X2_93 rfl rfl (Nat.le_of_ble_eq_true rfl) dX2_find_158 (fun g_14 H locs eg_14 hP hS => ?_)
            have hb_14 : g_14 b = .inr (2, [.ref (ad (b + 1)), .ref (ad (b + 2)), .ref (ad (b + 3)), .ref (ad (b + 4)), .ref (ad (b + 5)), .ref (ad (b + 6)), .ref (ad (b + 7)), .ref (ad (b + 8)), .ref (ad (b + 9)), .long (kyW x), .int 1, .int (nI (qk (srS x (kyW x) v m9))), .int go3, .int (nI (wlen (qp (srS x (kyW x) v m9)) (qg (srS x (kyW x) v m9) - 1)))]) := by rw [eg_14, va_up_self]; exact rfl
            have hb___1_14 : g_14 (b + 1) = .inl (cy 2, 1500, .inr (.inl SE3)) := ((congrFun eg_14 _).trans (va_up_ne _ _ (by omega))).trans hb___1_11
            have hb___2_14 : g_14 (b + 2) = .inl (cy 2, 1500, .inr (.inl OV3)) := ((congrFun eg_14 _).trans (va_up_ne _ _ (by omega))).trans hb___2_11
            have hb___3_14 : g_14 (b + 3) = .inl (cy 2, 1500, .inr (.inl KY3)) := ((congrFun eg_14 _).trans (va_up_ne _ _ (by omega))).trans hb___3_11
            have hb___4_14 : g_14 (b + 4) = .inl (cy 1, 1500, .inl PA3) := ((congrFun eg_14 _).trans (va_up_ne _ _ (by omega))).trans hb___4_11
            have hb___5_14 : g_14 (b + 5) = .inl (cy 1, 1500, .inl AC3) := ((congrFun eg_14 _).trans (va_up_ne _ _ (by omega))).trans hb___5_11
            have hb___6_14 : g_14 (b + 6) = .inl (cy 1, 4096, .inl (fun x9 => nI (SL3 x9))) := ((congrFun eg_14 _).trans (va_up_ne _ _ (by omega))).trans hb___6_11
            have hb___7_14 : g_14 (b + 7) = .inr (8, [.int (nI (wn v)), .long (lN (sea (wd v) (wn v))), .int (nI (wf v)), .int (nI (wh v)), .long (lN (wo v))]) := ((congrFun eg_14 _).trans (va_up_ne _ _ (by omega))).trans hb___7_11
            have hb___8_14 : g_14 (b + 8) = .inr (8, [.int (nI (wn x)), .long (lN (sea (wd x) (wn x))), .int (nI (wf x)), .int (nI (wh x)), .long (lN (wo x))]) := ((congrFun eg_14 _).trans (va_up_ne _ _ (by omega))).trans hb___8_11
            have hb___9_14 : g_14 (b + 9) = .inr (8, [.int (nI (wn w3)), .long (lN (sea (wd w3) (wn w3))), .int (nI (wf w3)), .int (nI (wh w3)), .long (lN (wo w3))]) := ((congrFun eg_14 _).trans (va_up_ne _ _ (by omega))).trans hb___9_11
            have hk1_14 : g_14 k1 = .inr (8, [.int (nI (wn v)), .long (lN (sea (wd v) (wn v))), .int (nI (wf v)), .int (nI (wh v)), .long (lN (wo v))]) := ((congrFun eg_14 _).trans (va_up_ne _ _ (by omega))).trans hk1_11
            have hk2_14 : g_14 k2 = .inr (8, [.int (nI (wn x)), .long (lN (sea (wd x) (wn x))), .int (nI (wf x)), .int (nI (wh x)), .long (lN (wo x))]) := ((congrFun eg_14 _).trans (va_up_ne _ _ (by omega))).trans hk2_11
            have hfr_14 : ∀ j : Nat, j ≠ (b + 7) → j ≠ (b + 8) → j ≠ b → j ≠ (b + 6) → j ≠ (b + 9) → j ≠ (b + 1) → j ≠ (b + 2) → j ≠ (b + 3) → j ≠ (b + 4) → j ≠ (b + 5) → g_14 j = g j := fun j n0 n1 n2 n3 n4 n5 n6 n7 n8 n9 => ((congrFun eg_14 _).trans (va_up_ne _ _ n2)).trans (hfr_11 j n0 n1 n2 n3 n4 n5 n6 n7 n8 n9)
            exact rMv S hr hlk hP hS ⟨v, x, w3, SE3, OV3, KY3, PA3, AC3, SL3, go3, hov, hox, hw3.1, weq_rfl, weq_rfl, (by rw [hF9]; exact hrel3), (by rw [hF9, hA9]; exact hb_14), hb___1_14, hb___2_14, hb___3_14, hb___4_14, hb___5_14, hb___6_14, hb___7_14, hb___8_14, hb___9_14, (fun j n0 n1 n2 n3 n4 n5 n6 n7 n8 n9 => hfr_14 j (by omega) (by omega) (by omega) (by omega) (by omega) (by omega) (by omega) (by omega) (by omega) (by omega))⟩ dX2_find_161
        · skip
          have c_98 := (not_congr (nI_leI (by omega) (by omega))).mp c_98
          refine lv_iload_n hx hb dX2_find_101 rfl (lv_at hl 0 rfl) ?_
          refine lv_sipush (v := nI (1500)) hx hb dX2_find_102 (by decide) ?_
          refine lv_icmp_ge (tgt := 126) hx hb dX2_find_105 (by decide) (fun c_105 => ?_) (fun c_105 => ?_)
          · skip
            have c_105 := (nI_leI (by omega) (by omega)).mp c_105
            have hF9 : srF v x = srS x (kyW x) v m9 := srF_e (by omega) (Or.inl (by omega))
            refine lv_aload_n hx hb dX2_find_126 rfl (lv_at hl 1 rfl) ?_
            refine lv_aload_n hx hb dX2_find_127 rfl (lv_at hl 1 rfl) ?_
            refine mg S hK hP (by omega) hb_11 fd_X2_74 rfl dX2_find_128 ?_
            refine lv_if_lt (tgt := 141) hx hb dX2_find_131 (by decide) (fun c_131 => ?_) (fun c_131 => ?_)
            · skip
              have hgl : qg (srS x (kyW x) v m9) = 0 := (srel_g hrel3).mp c_131
              refine lv_aload_n hx hb dX2_find_141 rfl (lv_at hl 1 rfl) ?_
              refine mg S hK hP (by omega) hb_11 fd_X2_70 rfl dX2_find_142 ?_
              refine lv_sipush (v := nI (1500)) hx hb dX2_find_145 (by decide) ?_
              refine lv_icmp_lt (tgt := 156) hx hb dX2_find_148 (by decide) (fun c_148 => ?_) (fun c_148 => ?_)
              · skip
                have c_148 := (nI_ltI (by omega) (by omega)).mp c_148
                have hA9 := ansF_n hgl (by omega)
                refine lv_bipush (v := (-4)) hx hb dX2_find_156 (by decide) ?_
                refine mp S hK hP hI hS (by omega) hb_11 fd_X2_93 rfl rfl (Nat.le_of_ble_eq_true rfl) dX2_find_158 (fun g_15 H locs eg_15 hP hS => ?_)
                have hb_15 : g_15 b = .inr (2, [.ref (ad (b + 1)), .ref (ad (b + 2)), .ref (ad (b + 3)), .ref (ad (b + 4)), .ref (ad (b + 5)), .ref (ad (b + 6)), .ref (ad (b + 7)), .ref (ad (b + 8)), .ref (ad (b + 9)), .long (kyW x), .int 1, .int (nI (qk (srS x (kyW x) v m9))), .int go3, .int (-4)]) := by rw [eg_15, va_up_self]; exact rfl
                have hb___1_15 : g_15 (b + 1) = .inl (cy 2, 1500, .inr (.inl SE3)) := ((congrFun eg_15 _).trans (va_up_ne _ _ (by omega))).trans hb___1_11
                have hb___2_15 : g_15 (b + 2) = .inl (cy 2, 1500, .inr (.inl OV3)) := ((congrFun eg_15 _).trans (va_up_ne _ _ (by omega))).trans hb___2_11
                have hb___3_15 : g_15 (b + 3) = .inl (cy 2, 1500, .inr (.inl KY3)) := ((congrFun eg_15 _).trans (va_up_ne _ _ (by omega))).trans hb___3_11
                have hb___4_15 : g_15 (b + 4) = .inl (cy 1, 1500, .inl PA3) := ((congrFun eg_15 _).trans (va_up_ne _ _ (by omega))).trans hb___4_11
                have hb___5_15 : g_15 (b + 5) = .inl (cy 1, 1500, .inl AC3) := ((congrFun eg_15 _).trans (va_up_ne _ _ (by omega))).trans hb___5_11
                have hb___6_15 : g_15 (b + 6) = .inl (cy 1, 4096, .inl (fun x9 => nI (SL3 x9))) := ((congrFun eg_15 _).trans (va_up_ne _ _ (by omega))).trans hb___6_11
                have hb___7_15 : g_15 (b + 7) = .inr (8, [.int (nI (wn v)), .long (lN (sea (wd v) (wn v))), .int (nI (wf v)), .int (nI (wh v)), .long (lN (wo v))]) := ((congrFun eg_15 _).trans (va_up_ne _ _ (by omega))).trans hb___7_11
                have hb___8_15 : g_15 (b + 8) = .inr (8, [.int (nI (wn x)), .long (lN (sea (wd x) (wn x))), .int (nI (wf x)), .int (nI (wh x)), .long (lN (wo x))]) := ((congrFun eg_15 _).trans (va_up_ne _ _ (by omega))).trans hb___8_11
                have hb___9_15 : g_15 (b + 9) = .inr (8, [.int (nI (wn w3)), .long (lN (sea (wd w3) (wn w3))), .int (nI (wf w3)), .int (nI (wh w3)), .long (lN (wo w3))]) := ((congrFun eg_15 _).trans (va_up_ne _ _ (by omega))).trans hb___9_11
                have hk1_15 : g_15 k1 = .inr (8, [.int (nI (wn v)), .long (lN (sea (wd v) (wn v))), .int (nI (wf v)), .int (nI (wh v)), .long (lN (wo v))]) := ((congrFun eg_15 _).trans (va_up_ne _ _ (by omega))).trans hk1_11
                have hk2_15 : g_15 k2 = .inr (8, [.int (nI (wn x)), .long (lN (sea (wd x) (wn x))), .int (nI (wf x)), .int (nI (wh x)), .long (lN (wo x))]) := ((congrFun eg_15 _).trans (va_up_ne _ _ (by omega))).trans hk2_11
                have hfr_15 : ∀ j : Nat, j ≠ (b + 7) → j ≠ (b + 8) → j ≠ b → j ≠ (b + 6) → j ≠ (b + 9) → j ≠ (b + 1) → j ≠ (b + 2) → j ≠ (b + 3) → j ≠ (b + 4) → j ≠ (b + 5) → g_15 j = g j := fun j n0 n1 n2 n3 n4 n5 n6 n7 n8 n9 => ((congrFun eg_15 _).trans (va_up_ne _ _ n2)).trans (hfr_11 j n0 n1 n2 n3 n4 n5 n6 n7 n8 n9)
                exact rMv S hr hlk hP hS ⟨v, x, w3, SE3, OV3, KY3, PA3, AC3, SL3, go3, hov, hox, hw3.1, weq_rfl, weq_rfl, (by rw [hF9]; exact hrel3), (by rw [hF9, hA9]; exact hb_15), hb___1_15, hb___2_15, hb___3_15, hb___4_15, hb___5_15, hb___6_15, hb___7_15, hb___8_15, hb___9_15, (fun j n0 n1 n2 n3 n4 n5 n6 n7 n8 n9 => hfr_15 j (by omega) (by omega) (by omega) (by omega) (by omega) (by omega) (by omega) (by omega) (by omega) (by omega))⟩ dX2_find_161
              · skip
                have c_148 := (not_congr (nI_ltI (by omega) (by omega))).mp c_148
                have hA9 := ansF_s hgl (by omega)
                refine lv_bipush (v := (-6)) hx hb dX2_find_151 (by decide) ?_
                refine lv_goto (tgt := 158) hx hb dX2_find_153 (by decide) ?_
                refine mp S hK hP hI hS (by omega) hb_11 fd_X2_93 rfl rfl (Nat.le_of_ble_eq_true rfl) dX2_find_158 (fun g_16 H locs eg_16 hP hS => ?_)
                have hb_16 : g_16 b = .inr (2, [.ref (ad (b + 1)), .ref (ad (b + 2)), .ref (ad (b + 3)), .ref (ad (b + 4)), .ref (ad (b + 5)), .ref (ad (b + 6)), .ref (ad (b + 7)), .ref (ad (b + 8)), .ref (ad (b + 9)), .long (kyW x), .int 1, .int (nI (qk (srS x (kyW x) v m9))), .int go3, .int (-6)]) := by rw [eg_16, va_up_self]; exact rfl
                have hb___1_16 : g_16 (b + 1) = .inl (cy 2, 1500, .inr (.inl SE3)) := ((congrFun eg_16 _).trans (va_up_ne _ _ (by omega))).trans hb___1_11
                have hb___2_16 : g_16 (b + 2) = .inl (cy 2, 1500, .inr (.inl OV3)) := ((congrFun eg_16 _).trans (va_up_ne _ _ (by omega))).trans hb___2_11
                have hb___3_16 : g_16 (b + 3) = .inl (cy 2, 1500, .inr (.inl KY3)) := ((congrFun eg_16 _).trans (va_up_ne _ _ (by omega))).trans hb___3_11
                have hb___4_16 : g_16 (b + 4) = .inl (cy 1, 1500, .inl PA3) := ((congrFun eg_16 _).trans (va_up_ne _ _ (by omega))).trans hb___4_11
                have hb___5_16 : g_16 (b + 5) = .inl (cy 1, 1500, .inl AC3) := ((congrFun eg_16 _).trans (va_up_ne _ _ (by omega))).trans hb___5_11
                have hb___6_16 : g_16 (b + 6) = .inl (cy 1, 4096, .inl (fun x9 => nI (SL3 x9))) := ((congrFun eg_16 _).trans (va_up_ne _ _ (by omega))).trans hb___6_11
                have hb___7_16 : g_16 (b + 7) = .inr (8, [.int (nI (wn v)), .long (lN (sea (wd v) (wn v))), .int (nI (wf v)), .int (nI (wh v)), .long (lN (wo v))]) := ((congrFun eg_16 _).trans (va_up_ne _ _ (by omega))).trans hb___7_11
                have hb___8_16 : g_16 (b + 8) = .inr (8, [.int (nI (wn x)), .long (lN (sea (wd x) (wn x))), .int (nI (wf x)), .int (nI (wh x)), .long (lN (wo x))]) := ((congrFun eg_16 _).trans (va_up_ne _ _ (by omega))).trans hb___8_11
                have hb___9_16 : g_16 (b + 9) = .inr (8, [.int (nI (wn w3)), .long (lN (sea (wd w3) (wn w3))), .int (nI (wf w3)), .int (nI (wh w3)), .long (lN (wo w3))]) := ((congrFun eg_16 _).trans (va_up_ne _ _ (by omega))).trans hb___9_11
                have hk1_16 : g_16 k1 = .inr (8, [.int (nI (wn v)), .long (lN (sea (wd v) (wn v))), .int (nI (wf v)), .int (nI (wh v)), .long (lN (wo v))]) := ((congrFun eg_16 _).trans (va_up_ne _ _ (by omega))).trans hk1_11
                have hk2_16 : g_16 k2 = .inr (8, [.int (nI (wn x)), .long (lN (sea (wd x) (wn x))), .int (nI (wf x)), .int (nI (wh x)), .long (lN (wo x))]) := ((congrFun eg_16 _).trans (va_up_ne _ _ (by omega))).trans hk2_11
                have hfr_16 : ∀ j : Nat, j ≠ (b + 7) → j ≠ (b + 8) → j ≠ b → j ≠ (b + 6) → j ≠ (b + 9) → j ≠ (b + 1) → j ≠ (b + 2) → j ≠ (b + 3) → j ≠ (b + 4) → j ≠ (b + 5) → g_16 j = g j := fun j n0 n1 n2 n3 n4 n5 n6 n7 n8 n9 => ((congrFun eg_16 _).trans (va_up_ne _ _ n2)).trans (hfr_11 j n0 n1 n2 n3 n4 n5 n6 n7 n8 n9)
                exact rMv S hr hlk hP hS ⟨v, x, w3, SE3, OV3, KY3, PA3, AC3, SL3, go3, hov, hox, hw3.1, weq_rfl, weq_rfl, (by rw [hF9]; exact hrel3), (by rw [hF9, hA9]; exact hb_16), hb___1_16, hb___2_16, hb___3_16, hb___4_16, hb___5_16, hb___6_16, hb___7_16, hb___8_16, hb___9_16, (fun j n0 n1 n2 n3 n4 n5 n6 n7 n8 n9 => hfr_16 j (by omega) (by omega) (by omega) (by omega) (by omega) (by omega) (by omega) (by omega) (by omega) (by omega))⟩ dX2_find_161
            · skip
              have hgl : qg (srS x (kyW x) v m9) ≠ 0 := fun q => c_131 ((srel_g hrel3).mpr q)
              have hA9 := ansF_y hgl
              refine lv_aload_n hx hb dX2_find_134 rfl (lv_at hl 1 rfl) ?_
              refine kVi (As := []) (rest := [.ref (ad b)]) S hK hP (c_X2_lengthOfWay l D cy ad N g_11 b (by omega) (kyW x) 1 go3 an9 (srS x (kyW x) v m9) (wn v) (wf v) (wh v) hb_11 SE3 OV3 KY3 PA3 hb___4_11 AC3 hb___5_11 SL3 hrel3 hgl) cv_X2_89 (by omega) hb_11 ⟨_, _, rfl⟩ ⟨rfl, rfl⟩ rfl hl.1 rfl (Nat.le_of_ble_eq_true rfl) ⟨Nat.zero_le _, Nat.zero_le _⟩ dX2_find_135 (fun r_135 q_135 => ?_)
              subst q_135
              refine lv_goto (tgt := 158) hx hb dX2_find_138 (by decide) ?_
              refine mp S hK hP hI hS (by omega) hb_11 fd_X2_93 rfl rfl (Nat.le_of_ble_eq_true rfl) dX2_find_158 (fun g_17 H locs eg_17 hP hS => ?_)
              have hb_17 : g_17 b = .inr (2, [.ref (ad (b + 1)), .ref (ad (b + 2)), .ref (ad (b + 3)), .ref (ad (b + 4)), .ref (ad (b + 5)), .ref (ad (b + 6)), .ref (ad (b + 7)), .ref (ad (b + 8)), .ref (ad (b + 9)), .long (kyW x), .int 1, .int (nI (qk (srS x (kyW x) v m9))), .int go3, .int (nI (wlen (qp (srS x (kyW x) v m9)) (qg (srS x (kyW x) v m9) - 1)))]) := by rw [eg_17, va_up_self]; exact rfl
              have hb___1_17 : g_17 (b + 1) = .inl (cy 2, 1500, .inr (.inl SE3)) := ((congrFun eg_17 _).trans (va_up_ne _ _ (by omega))).trans hb___1_11
              have hb___2_17 : g_17 (b + 2) = .inl (cy 2, 1500, .inr (.inl OV3)) := ((congrFun eg_17 _).trans (va_up_ne _ _ (by omega))).trans hb___2_11
              have hb___3_17 : g_17 (b + 3) = .inl (cy 2, 1500, .inr (.inl KY3)) := ((congrFun eg_17 _).trans (va_up_ne _ _ (by omega))).trans hb___3_11
              have hb___4_17 : g_17 (b + 4) = .inl (cy 1, 1500, .inl PA3) := ((congrFun eg_17 _).trans (va_up_ne _ _ (by omega))).trans hb___4_11
              have hb___5_17 : g_17 (b + 5) = .inl (cy 1, 1500, .inl AC3) := ((congrFun eg_17 _).trans (va_up_ne _ _ (by omega))).trans hb___5_11
              have hb___6_17 : g_17 (b + 6) = .inl (cy 1, 4096, .inl (fun x9 => nI (SL3 x9))) := ((congrFun eg_17 _).trans (va_up_ne _ _ (by omega))).trans hb___6_11
              have hb___7_17 : g_17 (b + 7) = .inr (8, [.int (nI (wn v)), .long (lN (sea (wd v) (wn v))), .int (nI (wf v)), .int (nI (wh v)), .long (lN (wo v))]) := ((congrFun eg_17 _).trans (va_up_ne _ _ (by omega))).trans hb___7_11
              have hb___8_17 : g_17 (b + 8) = .inr (8, [.int (nI (wn x)), .long (lN (sea (wd x) (wn x))), .int (nI (wf x)), .int (nI (wh x)), .long (lN (wo x))]) := ((congrFun eg_17 _).trans (va_up_ne _ _ (by omega))).trans hb___8_11
              have hb___9_17 : g_17 (b + 9) = .inr (8, [.int (nI (wn w3)), .long (lN (sea (wd w3) (wn w3))), .int (nI (wf w3)), .int (nI (wh w3)), .long (lN (wo w3))]) := ((congrFun eg_17 _).trans (va_up_ne _ _ (by omega))).trans hb___9_11
              have hk1_17 : g_17 k1 = .inr (8, [.int (nI (wn v)), .long (lN (sea (wd v) (wn v))), .int (nI (wf v)), .int (nI (wh v)), .long (lN (wo v))]) := ((congrFun eg_17 _).trans (va_up_ne _ _ (by omega))).trans hk1_11
              have hk2_17 : g_17 k2 = .inr (8, [.int (nI (wn x)), .long (lN (sea (wd x) (wn x))), .int (nI (wf x)), .int (nI (wh x)), .long (lN (wo x))]) := ((congrFun eg_17 _).trans (va_up_ne _ _ (by omega))).trans hk2_11
              have hfr_17 : ∀ j : Nat, j ≠ (b + 7) → j ≠ (b + 8) → j ≠ b → j ≠ (b + 6) → j ≠ (b + 9) → j ≠ (b + 1) → j ≠ (b + 2) → j ≠ (b + 3) → j ≠ (b + 4) → j ≠ (b + 5) → g_17 j = g j := fun j n0 n1 n2 n3 n4 n5 n6 n7 n8 n9 => ((congrFun eg_17 _).trans (va_up_ne _ _ n2)).trans (hfr_11 j n0 n1 n2 n3 n4 n5 n6 n7 n8 n9)
              exact rMv S hr hlk hP hS ⟨v, x, w3, SE3, OV3, KY3, PA3, AC3, SL3, go3, hov, hox, hw3.1, weq_rfl, weq_rfl, (by rw [hF9]; exact hrel3), (by rw [hF9, hA9]; exact hb_17), hb___1_17, hb___2_17, hb___3_17, hb___4_17, hb___5_17, hb___6_17, hb___7_17, hb___8_17, hb___9_17, (fun j n0 n1 n2 n3 n4 n5 n6 n7 n8 n9 => hfr_17 j (by omega) (by omega) (by omega) (by omega) (by omega) (by omega) (by omega) (by omega) (by omega) (by omega))⟩ dX2_find_161
          · skip
            have c_105 := (not_congr (nI_leI (by omega) (by omega))).mp c_105
            refine lv_aload_n hx hb dX2_find_108 rfl (lv_at hl 1 rfl) ?_
            refine kVi (As := []) (rest := []) S hK hP (c_X2_goesOn l D cy ad N g_11 b (by omega) (kyW x) 1 (qk (srS x (kyW x) v m9)) go3 an9 hb_11 hrel3.1) cv_X2_81 (by omega) hb_11 ⟨_, _, rfl⟩ ⟨rfl, rfl⟩ rfl hl.1 rfl (Nat.le_of_ble_eq_true rfl) ⟨Nat.zero_le _, Nat.zero_le _⟩ dX2_find_109 (fun r_109 q_109 => ?_)
            subst q_109
            refine lv_if_eq (tgt := 126) hx hb dX2_find_112 (by decide) (fun c_112 => ?_) (fun c_112 => ?_)
            · skip
              have c_112 := bz_eq.mp c_112
              have hg9 : ¬ gOn (srS x (kyW x) v m9) = true := fun q => c_112 ((gOn_iff hrel3).mp q)
              have hF9 : srF v x = srS x (kyW x) v m9 := srF_e (by omega) (Or.inr (fun q => hg9 q.2))
              refine lv_aload_n hx hb dX2_find_126 rfl (lv_at hl 1 rfl) ?_
              refine lv_aload_n hx hb dX2_find_127 rfl (lv_at hl 1 rfl) ?_
              refine mg S hK hP (by omega) hb_11 fd_X2_74 rfl dX2_find_128 ?_
              refine lv_if_lt (tgt := 141) hx hb dX2_find_131 (by decide) (fun c_131 => ?_) (fun c_131 => ?_)
              · skip
                have hgl : qg (srS x (kyW x) v m9) = 0 := (srel_g hrel3).mp c_131
                refine lv_aload_n hx hb dX2_find_141 rfl (lv_at hl 1 rfl) ?_
                refine mg S hK hP (by omega) hb_11 fd_X2_70 rfl dX2_find_142 ?_
                refine lv_sipush (v := nI (1500)) hx hb dX2_find_145 (by decide) ?_
                refine lv_icmp_lt (tgt := 156) hx hb dX2_find_148 (by decide) (fun c_148 => ?_) (fun c_148 => ?_)
                · skip
                  have c_148 := (nI_ltI (by omega) (by omega)).mp c_148
                  have hA9 := ansF_n hgl (by omega)
                  refine lv_bipush (v := (-4)) hx hb dX2_find_156 (by decide) ?_
                  refine mp S hK hP hI hS (by omega) hb_11 fd_X2_93 rfl rfl (Nat.le_of_ble_eq_true rfl) dX2_find_158 (fun g_18 H locs eg_18 hP hS => ?_)
                  have hb_18 : g_18 b = .inr (2, [.ref (ad (b + 1)), .ref (ad (b + 2)), .ref (ad (b + 3)), .ref (ad (b + 4)), .ref (ad (b + 5)), .ref (ad (b + 6)), .ref (ad (b + 7)), .ref (ad (b + 8)), .ref (ad (b + 9)), .long (kyW x), .int 1, .int (nI (qk (srS x (kyW x) v m9))), .int go3, .int (-4)]) := by rw [eg_18, va_up_self]; exact rfl
                  have hb___1_18 : g_18 (b + 1) = .inl (cy 2, 1500, .inr (.inl SE3)) := ((congrFun eg_18 _).trans (va_up_ne _ _ (by omega))).trans hb___1_11
                  have hb___2_18 : g_18 (b + 2) = .inl (cy 2, 1500, .inr (.inl OV3)) := ((congrFun eg_18 _).trans (va_up_ne _ _ (by omega))).trans hb___2_11
                  have hb___3_18 : g_18 (b + 3) = .inl (cy 2, 1500, .inr (.inl KY3)) := ((congrFun eg_18 _).trans (va_up_ne _ _ (by omega))).trans hb___3_11
                  have hb___4_18 : g_18 (b + 4) = .inl (cy 1, 1500, .inl PA3) := ((congrFun eg_18 _).trans (va_up_ne _ _ (by omega))).trans hb___4_11
                  have hb___5_18 : g_18 (b + 5) = .inl (cy 1, 1500, .inl AC3) := ((congrFun eg_18 _).trans (va_up_ne _ _ (by omega))).trans hb___5_11
                  have hb___6_18 : g_18 (b + 6) = .inl (cy 1, 4096, .inl (fun x9 => nI (SL3 x9))) := ((congrFun eg_18 _).trans (va_up_ne _ _ (by omega))).trans hb___6_11
                  have hb___7_18 : g_18 (b + 7) = .inr (8, [.int (nI (wn v)), .long (lN (sea (wd v) (wn v))), .int (nI (wf v)), .int (nI (wh v)), .long (lN (wo v))]) := ((congrFun eg_18 _).trans (va_up_ne _ _ (by omega))).trans hb___7_11
                  have hb___8_18 : g_18 (b + 8) = .inr (8, [.int (nI (wn x)), .long (lN (sea (wd x) (wn x))), .int (nI (wf x)), .int (nI (wh x)), .long (lN (wo x))]) := ((congrFun eg_18 _).trans (va_up_ne _ _ (by omega))).trans hb___8_11
                  have hb___9_18 : g_18 (b + 9) = .inr (8, [.int (nI (wn w3)), .long (lN (sea (wd w3) (wn w3))), .int (nI (wf w3)), .int (nI (wh w3)), .long (lN (wo w3))]) := ((congrFun eg_18 _).trans (va_up_ne _ _ (by omega))).trans hb___9_11
                  have hk1_18 : g_18 k1 = .inr (8, [.int (nI (wn v)), .long (lN (sea (wd v) (wn v))), .int (nI (wf v)), .int (nI (wh v)), .long (lN (wo v))]) := ((congrFun eg_18 _).trans (va_up_ne _ _ (by omega))).trans hk1_11
                  have hk2_18 : g_18 k2 = .inr (8, [.int (nI (wn x)), .long (lN (sea (wd x) (wn x))), .int (nI (wf x)), .int (nI (wh x)), .long (lN (wo x))]) := ((congrFun eg_18 _).trans (va_up_ne _ _ (by omega))).trans hk2_11
                  have hfr_18 : ∀ j : Nat, j ≠ (b + 7) → j ≠ (b + 8) → j ≠ b → j ≠ (b + 6) → j ≠ (b + 9) → j ≠ (b + 1) → j ≠ (b + 2) → j ≠ (b + 3) → j ≠ (b + 4) → j ≠ (b + 5) → g_18 j = g j := fun j n0 n1 n2 n3 n4 n5 n6 n7 n8 n9 => ((congrFun eg_18 _).trans (va_up_ne _ _ n2)).trans (hfr_11 j n0 n1 n2 n3 n4 n5 n6 n7 n8 n9)
                  exact rMv S hr hlk hP hS ⟨v, x, w3, SE3, OV3, KY3, PA3, AC3, SL3, go3, hov, hox, hw3.1, weq_rfl, weq_rfl, (by rw [hF9]; exact hrel3), (by rw [hF9, hA9]; exact hb_18), hb___1_18, hb___2_18, hb___3_18, hb___4_18, hb___5_18, hb___6_18, hb___7_18, hb___8_18, hb___9_18, (fun j n0 n1 n2 n3 n4 n5 n6 n7 n8 n9 => hfr_18 j (by omega) (by omega) (by omega) (by omega) (by omega) (by omega) (by omega) (by omega) (by omega) (by omega))⟩ dX2_find_161
                · skip
                  have c_148 := (not_congr (nI_ltI (by omega) (by omega))).mp c_148
                  have hA9 := ansF_s hgl (by omega)
                  refine lv_bipush (v := (-6)) hx hb dX2_find_151 (by decide) ?_
                  refine lv_goto (tgt := 158) hx hb dX2_find_153 (by decide) ?_
                  refine mp S hK hP hI hS (by omega) hb_11 fd_X2_93 rfl rfl (Nat.le_of_ble_eq_true rfl) dX2_find_158 (fun g_19 H locs eg_19 hP hS => ?_)
                  have hb_19 : g_19 b = .inr (2, [.ref (ad (b + 1)), .ref (ad (b + 2)), .ref (ad (b + 3)), .ref (ad (b + 4)), .ref (ad (b + 5)), .ref (ad (b + 6)), .ref (ad (b + 7)), .ref (ad (b + 8)), .ref (ad (b + 9)), .long (kyW x), .int 1, .int (nI (qk (srS x (kyW x) v m9))), .int go3, .int (-6)]) := by rw [eg_19, va_up_self]; exact rfl
                  have hb___1_19 : g_19 (b + 1) = .inl (cy 2, 1500, .inr (.inl SE3)) := ((congrFun eg_19 _).trans (va_up_ne _ _ (by omega))).trans hb___1_11
                  have hb___2_19 : g_19 (b + 2) = .inl (cy 2, 1500, .inr (.inl OV3)) := ((congrFun eg_19 _).trans (va_up_ne _ _ (by omega))).trans hb___2_11
                  have hb___3_19 : g_19 (b + 3) = .inl (cy 2, 1500, .inr (.inl KY3)) := ((congrFun eg_19 _).trans (va_up_ne _ _ (by omega))).trans hb___3_11
                  have hb___4_19 : g_19 (b + 4) = .inl (cy 1, 1500, .inl PA3) := ((congrFun eg_19 _).trans (va_up_ne _ _ (by omega))).trans hb___4_11
                  have hb___5_19 : g_19 (b + 5) = .inl (cy 1, 1500, .inl AC3) := ((congrFun eg_19 _).trans (va_up_ne _ _ (by omega))).trans hb___5_11
                  have hb___6_19 : g_19 (b + 6) = .inl (cy 1, 4096, .inl (fun x9 => nI (SL3 x9))) := ((congrFun eg_19 _).trans (va_up_ne _ _ (by omega))).trans hb___6_11
                  have hb___7_19 : g_19 (b + 7) = .inr (8, [.int (nI (wn v)), .long (lN (sea (wd v) (wn v))), .int (nI (wf v)), .int (nI (wh v)), .long (lN (wo v))]) := ((congrFun eg_19 _).trans (va_up_ne _ _ (by omega))).trans hb___7_11
                  have hb___8_19 : g_19 (b + 8) = .inr (8, [.int (nI (wn x)), .long (lN (sea (wd x) (wn x))), .int (nI (wf x)), .int (nI (wh x)), .long (lN (wo x))]) := ((congrFun eg_19 _).trans (va_up_ne _ _ (by omega))).trans hb___8_11
                  have hb___9_19 : g_19 (b + 9) = .inr (8, [.int (nI (wn w3)), .long (lN (sea (wd w3) (wn w3))), .int (nI (wf w3)), .int (nI (wh w3)), .long (lN (wo w3))]) := ((congrFun eg_19 _).trans (va_up_ne _ _ (by omega))).trans hb___9_11
                  have hk1_19 : g_19 k1 = .inr (8, [.int (nI (wn v)), .long (lN (sea (wd v) (wn v))), .int (nI (wf v)), .int (nI (wh v)), .long (lN (wo v))]) := ((congrFun eg_19 _).trans (va_up_ne _ _ (by omega))).trans hk1_11
                  have hk2_19 : g_19 k2 = .inr (8, [.int (nI (wn x)), .long (lN (sea (wd x) (wn x))), .int (nI (wf x)), .int (nI (wh x)), .long (lN (wo x))]) := ((congrFun eg_19 _).trans (va_up_ne _ _ (by omega))).trans hk2_11
                  have hfr_19 : ∀ j : Nat, j ≠ (b + 7) → j ≠ (b + 8) → j ≠ b → j ≠ (b + 6) → j ≠ (b + 9) → j ≠ (b + 1) → j ≠ (b + 2) → j ≠ (b + 3) → j ≠ (b + 4) → j ≠ (b + 5) → g_19 j = g j := fun j n0 n1 n2 n3 n4 n5 n6 n7 n8 n9 => ((congrFun eg_19 _).trans (va_up_ne _ _ n2)).trans (hfr_11 j n0 n1 n2 n3 n4 n5 n6 n7 n8 n9)
                  exact rMv S hr hlk hP hS ⟨v, x, w3, SE3, OV3, KY3, PA3, AC3, SL3, go3, hov, hox, hw3.1, weq_rfl, weq_rfl, (by rw [hF9]; exact hrel3), (by rw [hF9, hA9]; exact hb_19), hb___1_19, hb___2_19, hb___3_19, hb___4_19, hb___5_19, hb___6_19, hb___7_19, hb___8_19, hb___9_19, (fun j n0 n1 n2 n3 n4 n5 n6 n7 n8 n9 => hfr_19 j (by omega) (by omega) (by omega) (by omega) (by omega) (by omega) (by omega) (by omega) (by omega) (by omega))⟩ dX2_find_161
              · skip
                have hgl : qg (srS x (kyW x) v m9) ≠ 0 := fun q => c_131 ((srel_g hrel3).mpr q)
                have hA9 := ansF_y hgl
                refine lv_aload_n hx hb dX2_find_134 rfl (lv_at hl 1 rfl) ?_
                refine kVi (As := []) (rest := [.ref (ad b)]) S hK hP (c_X2_lengthOfWay l D cy ad N g_11 b (by omega) (kyW x) 1 go3 an9 (srS x (kyW x) v m9) (wn v) (wf v) (wh v) hb_11 SE3 OV3 KY3 PA3 hb___4_11 AC3 hb___5_11 SL3 hrel3 hgl) cv_X2_89 (by omega) hb_11 ⟨_, _, rfl⟩ ⟨rfl, rfl⟩ rfl hl.1 rfl (Nat.le_of_ble_eq_true rfl) ⟨Nat.zero_le _, Nat.zero_le _⟩ dX2_find_135 (fun r_135 q_135 => ?_)
                subst q_135
                refine lv_goto (tgt := 158) hx hb dX2_find_138 (by decide) ?_
                refine mp S hK hP hI hS (by omega) hb_11 fd_X2_93 rfl rfl (Nat.le_of_ble_eq_true rfl) dX2_find_158 (fun g_20 H locs eg_20 hP hS => ?_)
                have hb_20 : g_20 b = .inr (2, [.ref (ad (b + 1)), .ref (ad (b + 2)), .ref (ad (b + 3)), .ref (ad (b + 4)), .ref (ad (b + 5)), .ref (ad (b + 6)), .ref (ad (b + 7)), .ref (ad (b + 8)), .ref (ad (b + 9)), .long (kyW x), .int 1, .int (nI (qk (srS x (kyW x) v m9))), .int go3, .int (nI (wlen (qp (srS x (kyW x) v m9)) (qg (srS x (kyW x) v m9) - 1)))]) := by rw [eg_20, va_up_self]; exact rfl
                have hb___1_20 : g_20 (b + 1) = .inl (cy 2, 1500, .inr (.inl SE3)) := ((congrFun eg_20 _).trans (va_up_ne _ _ (by omega))).trans hb___1_11
                have hb___2_20 : g_20 (b + 2) = .inl (cy 2, 1500, .inr (.inl OV3)) := ((congrFun eg_20 _).trans (va_up_ne _ _ (by omega))).trans hb___2_11
                have hb___3_20 : g_20 (b + 3) = .inl (cy 2, 1500, .inr (.inl KY3)) := ((congrFun eg_20 _).trans (va_up_ne _ _ (by omega))).trans hb___3_11
                have hb___4_20 : g_20 (b + 4) = .inl (cy 1, 1500, .inl PA3) := ((congrFun eg_20 _).trans (va_up_ne _ _ (by omega))).trans hb___4_11
                have hb___5_20 : g_20 (b + 5) = .inl (cy 1, 1500, .inl AC3) := ((congrFun eg_20 _).trans (va_up_ne _ _ (by omega))).trans hb___5_11
                have hb___6_20 : g_20 (b + 6) = .inl (cy 1, 4096, .inl (fun x9 => nI (SL3 x9))) := ((congrFun eg_20 _).trans (va_up_ne _ _ (by omega))).trans hb___6_11
                have hb___7_20 : g_20 (b + 7) = .inr (8, [.int (nI (wn v)), .long (lN (sea (wd v) (wn v))), .int (nI (wf v)), .int (nI (wh v)), .long (lN (wo v))]) := ((congrFun eg_20 _).trans (va_up_ne _ _ (by omega))).trans hb___7_11
                have hb___8_20 : g_20 (b + 8) = .inr (8, [.int (nI (wn x)), .long (lN (sea (wd x) (wn x))), .int (nI (wf x)), .int (nI (wh x)), .long (lN (wo x))]) := ((congrFun eg_20 _).trans (va_up_ne _ _ (by omega))).trans hb___8_11
                have hb___9_20 : g_20 (b + 9) = .inr (8, [.int (nI (wn w3)), .long (lN (sea (wd w3) (wn w3))), .int (nI (wf w3)), .int (nI (wh w3)), .long (lN (wo w3))]) := ((congrFun eg_20 _).trans (va_up_ne _ _ (by omega))).trans hb___9_11
                have hk1_20 : g_20 k1 = .inr (8, [.int (nI (wn v)), .long (lN (sea (wd v) (wn v))), .int (nI (wf v)), .int (nI (wh v)), .long (lN (wo v))]) := ((congrFun eg_20 _).trans (va_up_ne _ _ (by omega))).trans hk1_11
                have hk2_20 : g_20 k2 = .inr (8, [.int (nI (wn x)), .long (lN (sea (wd x) (wn x))), .int (nI (wf x)), .int (nI (wh x)), .long (lN (wo x))]) := ((congrFun eg_20 _).trans (va_up_ne _ _ (by omega))).trans hk2_11
                have hfr_20 : ∀ j : Nat, j ≠ (b + 7) → j ≠ (b + 8) → j ≠ b → j ≠ (b + 6) → j ≠ (b + 9) → j ≠ (b + 1) → j ≠ (b + 2) → j ≠ (b + 3) → j ≠ (b + 4) → j ≠ (b + 5) → g_20 j = g j := fun j n0 n1 n2 n3 n4 n5 n6 n7 n8 n9 => ((congrFun eg_20 _).trans (va_up_ne _ _ n2)).trans (hfr_11 j n0 n1 n2 n3 n4 n5 n6 n7 n8 n9)
                exact rMv S hr hlk hP hS ⟨v, x, w3, SE3, OV3, KY3, PA3, AC3, SL3, go3, hov, hox, hw3.1, weq_rfl, weq_rfl, (by rw [hF9]; exact hrel3), (by rw [hF9, hA9]; exact hb_20), hb___1_20, hb___2_20, hb___3_20, hb___4_20, hb___5_20, hb___6_20, hb___7_20, hb___8_20, hb___9_20, (fun j n0 n1 n2 n3 n4 n5 n6 n7 n8 n9 => hfr_20 j (by omega) (by omega) (by omega) (by omega) (by omega) (by omega) (by omega) (by omega) (by omega) (by omega))⟩ dX2_find_161
            · skip
              have c_112 := bz_ne.mp c_112
              have hg9 := (gOn_iff hrel3).mpr c_112
              have c_98 : m9 < qk (srS x (kyW x) v m9) := by omega
              refine lv_aload_n hx hb dX2_find_115 rfl (lv_at hl 1 rfl) ?_
              refine lv_iload_n hx hb dX2_find_116 rfl (lv_at hl 0 rfl) ?_
              refine kMv (As := [.int (nI (m9))]) (rest := []) S hK hP hS (fun _ h => h) (c_X2_ask l D cy ad N g_11 hinj b (by omega) (kyW x) 1 go3 an9 (srS x (kyW x) v m9) (wn v) (wf v) (wh v) hb_11 SE3 hb___1_11 OV3 hb___2_11 KY3 hb___3_11 PA3 hb___4_11 AC3 hb___5_11 SL3 hb___6_11 hrel3 x hb___8_11 hox v hb___7_11 rfl w3 hb___9_11 hw3 m9 (by omega)) cv_X2_85 (by omega) hb_11 ⟨_, _, rfl⟩ ⟨rfl, rfl⟩ rfl hl.1 rfl (Nat.le_of_ble_eq_true rfl) ⟨Nat.zero_le _, Nat.zero_le _⟩ dX2_find_117 (fun g_21 H locs q_21 hP hS => ?_)
              obtain ⟨SE2_21, OV2_21, KY2_21, PA2_21, AC2_21, SL2_21, go2_21, w2_21, hrel2_21, hw2_21, hb_21, hb___1_21, hb___2_21, hb___3_21, hb___4_21, hb___5_21, hb___6_21, hb___9_21, f_21⟩ := q_21
              have hb___7_21 : g_21 (b + 7) = .inr (8, [.int (nI (wn v)), .long (lN (sea (wd v) (wn v))), .int (nI (wf v)), .int (nI (wh v)), .long (lN (wo v))]) := (f_21 (b + 7) (by omega) (by omega) (by omega) (by omega) (by omega) (by omega) (by omega) (by omega)).trans hb___7_11
              have hb___8_21 : g_21 (b + 8) = .inr (8, [.int (nI (wn x)), .long (lN (sea (wd x) (wn x))), .int (nI (wf x)), .int (nI (wh x)), .long (lN (wo x))]) := (f_21 (b + 8) (by omega) (by omega) (by omega) (by omega) (by omega) (by omega) (by omega) (by omega)).trans hb___8_11
              have hk1_21 : g_21 k1 = .inr (8, [.int (nI (wn v)), .long (lN (sea (wd v) (wn v))), .int (nI (wf v)), .int (nI (wh v)), .long (lN (wo v))]) := (f_21 k1 (by omega) (by omega) (by omega) (by omega) (by omega) (by omega) (by omega) (by omega)).trans hk1_11
              have hk2_21 : g_21 k2 = .inr (8, [.int (nI (wn x)), .long (lN (sea (wd x) (wn x))), .int (nI (wf x)), .int (nI (wh x)), .long (lN (wo x))]) := (f_21 k2 (by omega) (by omega) (by omega) (by omega) (by omega) (by omega) (by omega) (by omega)).trans hk2_11
              have hfr_21 : ∀ j : Nat, j ≠ (b + 7) → j ≠ (b + 8) → j ≠ b → j ≠ (b + 6) → j ≠ (b + 9) → j ≠ (b + 1) → j ≠ (b + 2) → j ≠ (b + 3) → j ≠ (b + 4) → j ≠ (b + 5) → g_21 j = g j := fun j n0 n1 n2 n3 n4 n5 n6 n7 n8 n9 => (f_21 j n2 n5 n6 n7 n8 n9 n3 n4).trans (hfr_11 j n0 n1 n2 n3 n4 n5 n6 n7 n8 n9)
              have hE9 := srS_yes (t := x) (u := v) (gk := kyW x) (m := m9) c_98 hg9
              rw [← hE9] at hrel2_21
              have hR9 := hrel2_21
              have hW9 := hw2_21
              refine lv_iinc (v := nI (m9 + 1)) (lv' := [(3, .int (nI (m9 + 1))), (0, .ref (ad b)), (1, .ref (ad k1)), (2, .ref (ad k2))]) hx hb dX2_find_120 hl (k := 0) rfl (by exact nI_add m9 1) (by decide) rfl (fun ls hl => ?_)
              refine lv_goto (tgt := 93) hx hb dX2_find_123 (by decide) ?_
              exact ih93 (m9 + 1) SE2_21 OV2_21 KY2_21 PA2_21 AC2_21 SL2_21 go2_21 w2_21 (by omega) hR9 hW9 (by omega) g_21 _ _ (by rw [hE9]; exact hb_21) hb___1_21 hb___2_21 hb___3_21 hb___4_21 hb___5_21 hb___6_21 hb___7_21 hb___8_21 hb___9_21 hfr_21 hP hS _ (lv_sub hl [0, 1, 2, 3] rfl)
    exact L93 ((1500 - 0) + 1) 0 SE2_10 OV2_10 KY2_10 PA2_10 AC2_10 SL2_10 go2_10 v (by omega) hrel2_10 ⟨hov, rfl, rfl, rfl⟩ (Nat.lt_succ_self _) g_10 _ _ hb_10 hb___1_10 hb___2_10 hb___3_10 hb___4_10 hb___5_10 hb___6_10 hb___7_10 hb___8_10 hb___9_10 hfr_10 hP hS _ (lv_sub hl [0, 1, 2, 3] rfl)
  refine lv_if_eq (tgt := 30) hx hb dX2_find_4 (by decide) (fun c_4 => ?_) (fun c_4 => ?_)
  · skip
    exact J30  _ (lv_sub hl [0, 1, 2] rfl)
  · skip
    obtain ⟨hs1, hsr, hsm, hsa, hsg⟩ := hsv.2.resolve_left c_4
    refine lv_aload_n hx hb dX2_find_7 rfl (lv_at hl 0 rfl) ?_
    refine mg S hK hP (by omega) hg fd_X2_34 rfl dX2_find_8 ?_
    refine lv_aload_n hx hb dX2_find_11 rfl (lv_at hl 1 rfl) ?_
    refine kVi (As := [.ref (ad k1)]) (rest := []) S hK hP (c_X8_isAs l D cy ad N g (b + 7) (by omega) (wn u) (wd u) (wf u) (wh u) (wo u) hu9 k1 hk1 (wn v) (wd v) (wf v) (wh v) (wo v) hv9 hou.1.1 hou.1.2 hou.2.1.1 hou.2.2.2.2.1 (lt256 hou.2.2.1 hou.1.2) (lt256 hov.2.2.1 hov.1.2) (lt256 hou.2.2.2.1 hou.1.2) (lt256 hov.2.2.2.1 hov.1.2) hov.2.2.2.2.1 hov.1.1 hov.1.2 hov.2.1.1) cv_X2_48 (by omega) hu9 ⟨_, _, rfl⟩ ⟨rfl, rfl⟩ rfl hl.1 rfl (Nat.le_of_ble_eq_true rfl) ⟨Nat.zero_le _, Nat.zero_le _⟩ dX2_find_12 (fun r_12 q_12 => ?_)
    subst q_12
    refine lv_if_eq (tgt := 30) hx hb dX2_find_15 (by decide) (fun c_15 => ?_) (fun c_15 => ?_)
    · skip
      have c_15 := bz_eq.mp c_15
      exact J30  _ (lv_sub hl [0, 1, 2] rfl)
    · skip
      have c_15 := bz_ne.mp c_15
      refine lv_aload_n hx hb dX2_find_18 rfl (lv_at hl 0 rfl) ?_
      refine mg S hK hP (by omega) hg fd_X2_38 rfl dX2_find_19 ?_
      refine lv_aload_n hx hb dX2_find_22 rfl (lv_at hl 2 rfl) ?_
      refine kVi (As := [.ref (ad k2)]) (rest := []) S hK hP (c_X8_isAs l D cy ad N g (b + 8) (by omega) (wn t) (wd t) (wf t) (wh t) (wo t) ht9 k2 hk2 (wn x) (wd x) (wf x) (wh x) (wo x) hx9 hot.1.1 hot.1.2 hot.2.1.1 hot.2.2.2.2.1 (lt256 hot.2.2.1 hot.1.2) (lt256 hox.2.2.1 hox.1.2) (lt256 hot.2.2.2.1 hot.1.2) (lt256 hox.2.2.2.1 hox.1.2) hox.2.2.2.2.1 hox.1.1 hox.1.2 hox.2.1.1) cv_X2_48 (by omega) ht9 ⟨_, _, rfl⟩ ⟨rfl, rfl⟩ rfl hl.1 rfl (Nat.le_of_ble_eq_true rfl) ⟨Nat.zero_le _, Nat.zero_le _⟩ dX2_find_23 (fun r_23 q_23 => ?_)
      subst q_23
      refine lv_if_eq (tgt := 30) hx hb dX2_find_26 (by decide) (fun c_26 => ?_) (fun c_26 => ?_)
      · skip
        have c_26 := bz_eq.mp c_26
        exact J30  _ (lv_sub hl [0, 1, 2] rfl)
      · skip
        have c_26 := bz_ne.mp c_26
        exact rMv S hr hlk hP hS ⟨u, t, w, SE, OV, KY, PA, AC, SL, go, hou, hot, hw, c_15, c_26, hsr, (hg.trans (by rw [hs1, hsm, hsa, hsg])), he9, ho9, hk9, hp9, ha9, hs9, hu9, ht9, hw9, (fun j n0 n1 n2 n3 n4 n5 n6 n7 n8 n9 => hfr j )⟩ dX2_find_29

set_option maxHeartbeats 4000000 in
set_option maxRecDepth 100000 in
theorem c_X2_ask (l : Launch) (D : va_G) (cy : Nat → ClassId) (ad : Nat → Nat) (N : Nat) (g : Nat → va_E) (hinj : ∀ i j : Nat, i < N → j < N → ad i = ad j → i = j) (b : Nat) (hbN : b + 10 ≤ N) (gk : Int64) (sd : Int32) (go : Int32) (an9 : Int32) (Q : QS) (n : Nat) (f : Nat) (h : Nat) (hg : g b = .inr (2, [.ref (ad (b + 1)), .ref (ad (b + 2)), .ref (ad (b + 3)), .ref (ad (b + 4)), .ref (ad (b + 5)), .ref (ad (b + 6)), .ref (ad (b + 7)), .ref (ad (b + 8)), .ref (ad (b + 9)), .long gk, .int sd, .int (nI (qk Q)), .int go, .int an9])) (SE : Nat → Int64) (he9 : g (b + 1) = .inl (cy 2, 1500, .inr (.inl SE))) (OV : Nat → Int64) (ho9 : g (b + 2) = .inl (cy 2, 1500, .inr (.inl OV))) (KY : Nat → Int64) (hk9 : g (b + 3) = .inl (cy 2, 1500, .inr (.inl KY))) (PA : Nat → Int32) (hp9 : g (b + 4) = .inl (cy 1, 1500, .inl PA)) (AC : Nat → Int32) (ha9 : g (b + 5) = .inl (cy 1, 1500, .inl AC)) (SL : Nat → Nat) (hs9 : g (b + 6) = .inl (cy 1, 4096, .inl (fun x9 => nI (SL x9)))) (hrel : SRel SE OV KY PA AC SL go Q n f h) (t : WT) (ht9 : g (b + 8) = .inr (8, [.int (nI (wn t)), .long (lN (sea (wd t) (wn t))), .int (nI (wf t)), .int (nI (wh t)), .long (lN (wo t))])) (hot : WOK t) (u : WT) (hu9 : g (b + 7) = .inr (8, [.int (nI (wn u)), .long (lN (sea (wd u) (wn u))), .int (nI (wf u)), .int (nI (wh u)), .long (lN (wo u))])) (hun : wn u = n) (w : WT) (hw9 : g (b + 9) = .inr (8, [.int (nI (wn w)), .long (lN (sea (wd w) (wn w))), .int (nI (wf w)), .int (nI (wh w)), .long (lN (wo w))])) (hw : WOK w ∧ wn w = n ∧ wf w = f ∧ wh w = h) (m9 : Nat) (hm : m9 < qk Q) : Met l yX2_ask (WS yX2_ask cX2_ask 3 none) (rmF 4 90) (PP [.ref (ad b), .int (nI (m9))] D cy ad N g) (QV (fun g1 => ∃ (SE2 : Nat → Int64), ∃ (OV2 : Nat → Int64), ∃ (KY2 : Nat → Int64), ∃ (PA2 : Nat → Int32), ∃ (AC2 : Nat → Int32), ∃ (SL2 : Nat → Nat), ∃ (go2 : Int32), ∃ (w2 : WT), (SRel SE2 OV2 KY2 PA2 AC2 SL2 go2 (aS t gk Q m9 (2 * n)) n f h) ∧ (WOK w2 ∧ wn w2 = n ∧ wf w2 = f ∧ wh w2 = h) ∧ g1 b = .inr (2, [.ref (ad (b + 1)), .ref (ad (b + 2)), .ref (ad (b + 3)), .ref (ad (b + 4)), .ref (ad (b + 5)), .ref (ad (b + 6)), .ref (ad (b + 7)), .ref (ad (b + 8)), .ref (ad (b + 9)), .long gk, .int sd, .int (nI (qk (aS t gk Q m9 (2 * n)))), .int go2, .int an9]) ∧ g1 (b + 1) = .inl (cy 2, 1500, .inr (.inl SE2)) ∧ g1 (b + 2) = .inl (cy 2, 1500, .inr (.inl OV2)) ∧ g1 (b + 3) = .inl (cy 2, 1500, .inr (.inl KY2)) ∧ g1 (b + 4) = .inl (cy 1, 1500, .inl PA2) ∧ g1 (b + 5) = .inl (cy 1, 1500, .inl AC2) ∧ g1 (b + 6) = .inl (cy 1, 4096, .inl (fun x9 => nI (SL2 x9))) ∧ g1 (b + 9) = .inr (8, [.int (nI (wn w2)), .long (lN (sea (wd w2) (wn w2))), .int (nI (wf w2)), .int (nI (wh w2)), .long (lN (wo w2))]) ∧ (∀ j, j ≠ b → j ≠ (b + 1) → j ≠ (b + 2) → j ≠ (b + 3) → j ≠ (b + 4) → j ≠ (b + 5) → j ≠ (b + 6) → j ≠ (b + 9) → g1 j = g j)) D ad N) 0 0 (AA ad N) := by
  refine mentry (by decide) (Nat.le_of_ble_eq_true rfl) (fun p e s m below meth c ls S hr hlk hnm hP hK hl => ?_)
  have S : CallFix p m c cX2_ask 3 s _ wsL_law RX2 := S
  have hx := S.1
  have hb := S.2.1
  have hl : lv_has ls 3 [(0, .ref (ad b)), (1, .int (nI (m9)))] := hl
  have hI : MD (AA ad N) ad N := MD.in hinj
  have hS : va_S (AA ad N) s.heap s.heap [] := va_S.rf
  have hfr : ∀ j : Nat, g j = g j := fun _ => rfl
  have hmc := hrel.1
  have hMm := (hrel.2.2.1 m9 hm).1
  have hn4 : 4 ≤ n := by have := hMm.1.1.1; omega
  have hn8 : n ≤ 8 := by have := hMm.1.1.2; omega
  have hM : WOK (qM Q m9) ∧ wn (qM Q m9) = n ∧ wf (qM Q m9) = f ∧ wh (qM Q m9) = h := hMm
  have hMo := hM.1.2.2.2.2.1
  have hMd := hM.1.2.1.1
  refine lv_iconst (v := nI (0)) hx hb dX2_ask_0 (by decide) ?_
  refine lv_istore_n (lv' := [(2, .int (nI (0))), (0, .ref (ad b)), (1, .int (nI (m9)))]) hx hb dX2_ask_1 rfl hl (by decide) rfl (fun ls hl => ?_)
  have L2 : ∀ (fu : Nat) (a : Nat) (SE3 OV3 KY3 : Nat → Int64) (PA3 AC3 : Nat → Int32) (SL3 : Nat → Nat) (go3 : Int32) (w3 : WT), (a ≤ 2 * n) → (SRel SE3 OV3 KY3 PA3 AC3 SL3 go3 (aS t gk Q m9 a) n f h) → (WOK w3 ∧ wn w3 = n ∧ wf w3 = f ∧ wh w3 = h) → (2 * n - a) < fu → ∀ (g_1 : Nat → va_E) (H : Heap) (locs : List Loc), g_1 b = .inr (2, [.ref (ad (b + 1)), .ref (ad (b + 2)), .ref (ad (b + 3)), .ref (ad (b + 4)), .ref (ad (b + 5)), .ref (ad (b + 6)), .ref (ad (b + 7)), .ref (ad (b + 8)), .ref (ad (b + 9)), .long gk, .int sd, .int (nI (qk (aS t gk Q m9 a))), .int go3, .int an9]) → g_1 (b + 1) = .inl (cy 2, 1500, .inr (.inl SE3)) → g_1 (b + 2) = .inl (cy 2, 1500, .inr (.inl OV3)) → g_1 (b + 3) = .inl (cy 2, 1500, .inr (.inl KY3)) → g_1 (b + 4) = .inl (cy 1, 1500, .inl PA3) → g_1 (b + 5) = .inl (cy 1, 1500, .inl AC3) → g_1 (b + 6) = .inl (cy 1, 4096, .inl (fun x9 => nI (SL3 x9))) → g_1 (b + 9) = .inr (8, [.int (nI (wn w3)), .long (lN (sea (wd w3) (wn w3))), .int (nI (wf w3)), .int (nI (wh w3)), .long (lN (wo w3))]) → (∀ j : Nat, j ≠ b → j ≠ (b + 1) → j ≠ (b + 2) → j ≠ (b + 3) → j ≠ (b + 4) → j ≠ (b + 5) → j ≠ (b + 6) → j ≠ (b + 9) → g_1 j = g j) → MM D ad N g_1 H → va_S (AA ad N) s.heap H locs → ∀ (ls : Array Slot), lv_has ls 3 [(2, .int (nI (a))), (0, .ref (ad b)), (1, .int (nI (m9)))] → W p l e (rmF 4 90) s m [.ref (ad b), .int (nI (m9))].toArray below meth c H locs 0 0 (MQ below (QV (fun g1 => ∃ (SE2 : Nat → Int64), ∃ (OV2 : Nat → Int64), ∃ (KY2 : Nat → Int64), ∃ (PA2 : Nat → Int32), ∃ (AC2 : Nat → Int32), ∃ (SL2 : Nat → Nat), ∃ (go2 : Int32), ∃ (w2 : WT), (SRel SE2 OV2 KY2 PA2 AC2 SL2 go2 (aS t gk Q m9 (2 * n)) n f h) ∧ (WOK w2 ∧ wn w2 = n ∧ wf w2 = f ∧ wh w2 = h) ∧ g1 b = .inr (2, [.ref (ad (b + 1)), .ref (ad (b + 2)), .ref (ad (b + 3)), .ref (ad (b + 4)), .ref (ad (b + 5)), .ref (ad (b + 6)), .ref (ad (b + 7)), .ref (ad (b + 8)), .ref (ad (b + 9)), .long gk, .int sd, .int (nI (qk (aS t gk Q m9 (2 * n)))), .int go2, .int an9]) ∧ g1 (b + 1) = .inl (cy 2, 1500, .inr (.inl SE2)) ∧ g1 (b + 2) = .inl (cy 2, 1500, .inr (.inl OV2)) ∧ g1 (b + 3) = .inl (cy 2, 1500, .inr (.inl KY2)) ∧ g1 (b + 4) = .inl (cy 1, 1500, .inl PA2) ∧ g1 (b + 5) = .inl (cy 1, 1500, .inl AC2) ∧ g1 (b + 6) = .inl (cy 1, 4096, .inl (fun x9 => nI (SL2 x9))) ∧ g1 (b + 9) = .inr (8, [.int (nI (wn w2)), .long (lN (sea (wd w2) (wn w2))), .int (nI (wf w2)), .int (nI (wh w2)), .long (lN (wo w2))]) ∧ (∀ j, j ≠ b → j ≠ (b + 1) → j ≠ (b + 2) → j ≠ (b + 3) → j ≠ (b + 4) → j ≠ (b + 5) → j ≠ (b + 6) → j ≠ (b + 9) → g1 j = g j)) D ad N) [.ref (ad b), .int (nI (m9))].toArray s 0 0 (AA ad N)) (F0 m 2 ls []) := by
    intro fu
    induction fu with
    | zero => intro a SE3 OV3 KY3 PA3 AC3 SL3 go3 w3 ha hrel3 hw3 hms g_1 H locs hb_1 hb___1_1 hb___2_1 hb___3_1 hb___4_1 hb___5_1 hb___6_1 hb___9_1 hfr_1 hP hS ls hl; exact absurd hms (Nat.not_lt_zero _)
    | succ fu ih2 =>
      intro a SE3 OV3 KY3 PA3 AC3 SL3 go3 w3 ha hrel3 hw3 hms g_1 H locs hb_1 hb___1_1 hb___2_1 hb___3_1 hb___4_1 hb___5_1 hb___6_1 hb___9_1 hfr_1 hP hS ls hl
      have hb___8_1 : g_1 (b + 8) = .inr (8, [.int (nI (wn t)), .long (lN (sea (wd t) (wn t))), .int (nI (wf t)), .int (nI (wh t)), .long (lN (wo t))]) := (hfr_1 (b + 8) (by omega) (by omega) (by omega) (by omega) (by omega) (by omega) (by omega) (by omega)).trans ht9
      have hb___7_1 : g_1 (b + 7) = .inr (8, [.int (nI (wn u)), .long (lN (sea (wd u) (wn u))), .int (nI (wf u)), .int (nI (wh u)), .long (lN (wo u))]) := (hfr_1 (b + 7) (by omega) (by omega) (by omega) (by omega) (by omega) (by omega) (by omega) (by omega)).trans hu9
      refine lv_iload_n hx hb dX2_ask_2 rfl (lv_at hl 0 rfl) ?_
      refine lv_iconst (v := nI (2)) hx hb dX2_ask_3 (by decide) ?_
      refine lv_aload_n hx hb dX2_ask_4 rfl (lv_at hl 1 rfl) ?_
      refine mg S hK hP (by omega) hb_1 fd_X2_34 rfl dX2_ask_5 ?_
      refine mg S hK hP (by omega) hb___7_1 fd_X2_96 rfl dX2_ask_8 ?_
      refine tpi (by rw [hun]) ?_
      refine lv_imul hx hb dX2_ask_11 ?_
      refine tpi (pk_mul 2 n) ?_
      refine lv_icmp_ge (tgt := 77) hx hb dX2_ask_12 (by decide) (fun c_12 => ?_) (fun c_12 => ?_)
      · skip
        have c_12 := (nI_leI (by omega) (by omega)).mp c_12
        have hF9 : aS t gk Q m9 (2 * n) = aS t gk Q m9 a := by rw [show 2 * n = a by omega]
        exact rMv S hr hlk hP hS ⟨SE3, OV3, KY3, PA3, AC3, SL3, go3, w3, (by rw [hF9]; exact hrel3), hw3, (by rw [hF9]; exact hb_1), hb___1_1, hb___2_1, hb___3_1, hb___4_1, hb___5_1, hb___6_1, hb___9_1, hfr_1⟩ dX2_ask_77
      · skip
        have c_12 := (not_congr (nI_leI (by omega) (by omega))).mp c_12
        refine lv_aload_n hx hb dX2_ask_15 rfl (lv_at hl 1 rfl) ?_
        refine kVi (As := []) (rest := []) S hK hP (c_X2_goesOn l D cy ad N g_1 b (by omega) gk sd (qk (aS t gk Q m9 a)) go3 an9 hb_1 hrel3.1) cv_X2_81 (by omega) hb_1 ⟨_, _, rfl⟩ ⟨rfl, rfl⟩ rfl hl.1 rfl (Nat.le_of_ble_eq_true rfl) ⟨Nat.zero_le _, Nat.zero_le _⟩ dX2_ask_16 (fun r_16 q_16 => ?_)
        subst q_16
        refine lv_if_eq (tgt := 77) hx hb dX2_ask_19 (by decide) (fun c_19 => ?_) (fun c_19 => ?_)
        · skip
          have c_19 := bz_eq.mp c_19
          have hg9 : gOn (aS t gk Q m9 a) = false := Bool.eq_false_iff.mpr (fun q => c_19 ((gOn_iff hrel3).mp q))
          have hF9 : aS t gk Q m9 (2 * n) = aS t gk Q m9 a := by have := aS_stop hg9 (2 * n - a); rw [show a + (2 * n - a) = 2 * n by omega] at this; exact this
          exact rMv S hr hlk hP hS ⟨SE3, OV3, KY3, PA3, AC3, SL3, go3, w3, (by rw [hF9]; exact hrel3), hw3, (by rw [hF9]; exact hb_1), hb___1_1, hb___2_1, hb___3_1, hb___4_1, hb___5_1, hb___6_1, hb___9_1, hfr_1⟩ dX2_ask_77
        · skip
          have c_19 := bz_ne.mp c_19
          have hg9 := (gOn_iff hrel3).mpr c_19
          have hkk := aS_keep (t := t) (gk := gk) (Q := Q) (m := m9) a
          have hkm := hkk.1
          have hq3 := (hrel3.2.2.1 m9 (by omega)).2.1
          rw [hkk.2 m9 hm] at hq3
          refine lv_aload_n hx hb dX2_ask_22 rfl (lv_at hl 1 rfl) ?_
          refine mg S hK hP (by omega) hb_1 fd_X2_41 rfl dX2_ask_23 ?_
          refine lv_aload_n hx hb dX2_ask_26 rfl (lv_at hl 1 rfl) ?_
          refine mg S hK hP (by omega) hb_1 fd_X2_9 rfl dX2_ask_27 ?_
          refine lv_iload_n hx hb dX2_ask_30 rfl (lv_at hl 2 rfl) ?_
          refine mlal S hK hP (by omega) hb___1_1 (vp_in_nI (by omega) (by omega)) dX2_ask_31 ?_
          refine tpl (congrArg SE3 (nI_clamp (by omega))) ?_
          refine tpl (hq3.1) ?_
          refine mp S hK hP hI hS (by omega) hb___9_1 fd_X2_99 rfl rfl (Nat.le_of_ble_eq_true rfl) dX2_ask_32 (fun g_2 H locs eg_2 hP hS => ?_)
          have hb___9_2 : g_2 (b + 9) = .inr (8, [.int (nI (wn w3)), .long (lN (sea (wd (qM Q m9)) n)), .int (nI (wf w3)), .int (nI (wh w3)), .long (lN (wo w3))]) := by rw [eg_2, va_up_self]; exact rfl
          have hb_2 : g_2 b = .inr (2, [.ref (ad (b + 1)), .ref (ad (b + 2)), .ref (ad (b + 3)), .ref (ad (b + 4)), .ref (ad (b + 5)), .ref (ad (b + 6)), .ref (ad (b + 7)), .ref (ad (b + 8)), .ref (ad (b + 9)), .long gk, .int sd, .int (nI (qk (aS t gk Q m9 a))), .int go3, .int an9]) := ((congrFun eg_2 _).trans (va_up_ne _ _ (by omega))).trans hb_1
          have hb___1_2 : g_2 (b + 1) = .inl (cy 2, 1500, .inr (.inl SE3)) := ((congrFun eg_2 _).trans (va_up_ne _ _ (by omega))).trans hb___1_1
          have hb___2_2 : g_2 (b + 2) = .inl (cy 2, 1500, .inr (.inl OV3)) := ((congrFun eg_2 _).trans (va_up_ne _ _ (by omega))).trans hb___2_1
          have hb___3_2 : g_2 (b + 3) = .inl (cy 2, 1500, .inr (.inl KY3)) := ((congrFun eg_2 _).trans (va_up_ne _ _ (by omega))).trans hb___3_1
          have hb___4_2 : g_2 (b + 4) = .inl (cy 1, 1500, .inl PA3) := ((congrFun eg_2 _).trans (va_up_ne _ _ (by omega))).trans hb___4_1
          have hb___5_2 : g_2 (b + 5) = .inl (cy 1, 1500, .inl AC3) := ((congrFun eg_2 _).trans (va_up_ne _ _ (by omega))).trans hb___5_1
          have hb___6_2 : g_2 (b + 6) = .inl (cy 1, 4096, .inl (fun x9 => nI (SL3 x9))) := ((congrFun eg_2 _).trans (va_up_ne _ _ (by omega))).trans hb___6_1
          have hb___8_2 : g_2 (b + 8) = .inr (8, [.int (nI (wn t)), .long (lN (sea (wd t) (wn t))), .int (nI (wf t)), .int (nI (wh t)), .long (lN (wo t))]) := ((congrFun eg_2 _).trans (va_up_ne _ _ (by omega))).trans hb___8_1
          have hb___7_2 : g_2 (b + 7) = .inr (8, [.int (nI (wn u)), .long (lN (sea (wd u) (wn u))), .int (nI (wf u)), .int (nI (wh u)), .long (lN (wo u))]) := ((congrFun eg_2 _).trans (va_up_ne _ _ (by omega))).trans hb___7_1
          have hfr_2 : ∀ j : Nat, j ≠ b → j ≠ (b + 1) → j ≠ (b + 2) → j ≠ (b + 3) → j ≠ (b + 4) → j ≠ (b + 5) → j ≠ (b + 6) → j ≠ (b + 9) → g_2 j = g j := fun j n0 n1 n2 n3 n4 n5 n6 n7 => ((congrFun eg_2 _).trans (va_up_ne _ _ n7)).trans (hfr_1 j n0 n1 n2 n3 n4 n5 n6 n7)
          refine lv_aload_n hx hb dX2_ask_35 rfl (lv_at hl 1 rfl) ?_
          refine mg S hK hP (by omega) hb_2 fd_X2_41 rfl dX2_ask_36 ?_
          refine lv_aload_n hx hb dX2_ask_39 rfl (lv_at hl 1 rfl) ?_
          refine mg S hK hP (by omega) hb_2 fd_X2_15 rfl dX2_ask_40 ?_
          refine lv_iload_n hx hb dX2_ask_43 rfl (lv_at hl 2 rfl) ?_
          refine mlal S hK hP (by omega) hb___2_2 (vp_in_nI (by omega) (by omega)) dX2_ask_44 ?_
          refine tpl (congrArg OV3 (nI_clamp (by omega))) ?_
          refine tpl (hq3.2.1) ?_
          refine mp S hK hP hI hS (by omega) hb___9_2 fd_X2_101 rfl rfl (Nat.le_of_ble_eq_true rfl) dX2_ask_45 (fun g_3 H locs eg_3 hP hS => ?_)
          have hb___9_3 : g_3 (b + 9) = .inr (8, [.int (nI (wn w3)), .long (lN (sea (wd (qM Q m9)) n)), .int (nI (wf w3)), .int (nI (wh w3)), .long (lN (wo (qM Q m9)))]) := by rw [eg_3, va_up_self]; exact rfl
          have hb_3 : g_3 b = .inr (2, [.ref (ad (b + 1)), .ref (ad (b + 2)), .ref (ad (b + 3)), .ref (ad (b + 4)), .ref (ad (b + 5)), .ref (ad (b + 6)), .ref (ad (b + 7)), .ref (ad (b + 8)), .ref (ad (b + 9)), .long gk, .int sd, .int (nI (qk (aS t gk Q m9 a))), .int go3, .int an9]) := ((congrFun eg_3 _).trans (va_up_ne _ _ (by omega))).trans hb_2
          have hb___1_3 : g_3 (b + 1) = .inl (cy 2, 1500, .inr (.inl SE3)) := ((congrFun eg_3 _).trans (va_up_ne _ _ (by omega))).trans hb___1_2
          have hb___2_3 : g_3 (b + 2) = .inl (cy 2, 1500, .inr (.inl OV3)) := ((congrFun eg_3 _).trans (va_up_ne _ _ (by omega))).trans hb___2_2
          have hb___3_3 : g_3 (b + 3) = .inl (cy 2, 1500, .inr (.inl KY3)) := ((congrFun eg_3 _).trans (va_up_ne _ _ (by omega))).trans hb___3_2
          have hb___4_3 : g_3 (b + 4) = .inl (cy 1, 1500, .inl PA3) := ((congrFun eg_3 _).trans (va_up_ne _ _ (by omega))).trans hb___4_2
          have hb___5_3 : g_3 (b + 5) = .inl (cy 1, 1500, .inl AC3) := ((congrFun eg_3 _).trans (va_up_ne _ _ (by omega))).trans hb___5_2
          have hb___6_3 : g_3 (b + 6) = .inl (cy 1, 4096, .inl (fun x9 => nI (SL3 x9))) := ((congrFun eg_3 _).trans (va_up_ne _ _ (by omega))).trans hb___6_2
          have hb___8_3 : g_3 (b + 8) = .inr (8, [.int (nI (wn t)), .long (lN (sea (wd t) (wn t))), .int (nI (wf t)), .int (nI (wh t)), .long (lN (wo t))]) := ((congrFun eg_3 _).trans (va_up_ne _ _ (by omega))).trans hb___8_2
          have hb___7_3 : g_3 (b + 7) = .inr (8, [.int (nI (wn u)), .long (lN (sea (wd u) (wn u))), .int (nI (wf u)), .int (nI (wh u)), .long (lN (wo u))]) := ((congrFun eg_3 _).trans (va_up_ne _ _ (by omega))).trans hb___7_2
          have hfr_3 : ∀ j : Nat, j ≠ b → j ≠ (b + 1) → j ≠ (b + 2) → j ≠ (b + 3) → j ≠ (b + 4) → j ≠ (b + 5) → j ≠ (b + 6) → j ≠ (b + 9) → g_3 j = g j := fun j n0 n1 n2 n3 n4 n5 n6 n7 => ((congrFun eg_3 _).trans (va_up_ne _ _ n7)).trans (hfr_2 j n0 n1 n2 n3 n4 n5 n6 n7)
          have hst_4 : g_3 (b + 9) = .inr (8, [.int (nI (wn (qM Q m9))), .long (lN (sea (wd (qM Q m9)) (wn (qM Q m9)))), .int (nI (wf (qM Q m9))), .int (nI (wh (qM Q m9))), .long (lN (wo (qM Q m9)))]) := hb___9_3.trans (by rw [hM.2.1, hM.2.2.1, hM.2.2.2, hw3.2.1, hw3.2.2.1, hw3.2.2.2])
          refine lv_aload_n hx hb dX2_ask_48 rfl (lv_at hl 1 rfl) ?_
          refine mg S hK hP (by omega) hb_3 fd_X2_41 rfl dX2_ask_49 ?_
          refine lv_iload_n hx hb dX2_ask_52 rfl (lv_at hl 0 rfl) ?_
          refine lv_iconst (v := nI (1)) hx hb dX2_ask_53 (by decide) ?_
          refine lv_iand hx hb dX2_ask_54 ?_
          refine tpi (nx_and a 1) ?_
          refine tpi (congrArg nI (Nat.and_one_is_mod a)) ?_
          refine lv_iload_n hx hb dX2_ask_55 rfl (lv_at hl 0 rfl) ?_
          refine lv_iconst (v := nI (1)) hx hb dX2_ask_56 (by decide) ?_
          refine lv_ishr hx hb dX2_ask_57 ?_
          refine tpi (shrN (by omega) (by omega)) ?_
          refine tpi (congrArg nI (by rw [Nat.pow_one])) ?_
          refine kMi (As := [.int (nI (a % 2)), .int (nI (a / 2))]) (rest := []) S hK hP hS (fun _ h => h) (c_X8_change l D cy ad N g_3 hinj (b + 9) (by omega) (qM Q m9) hst_4 hM.1 (nI (a % 2)) (nI (a / 2))) cv_X2_103 (by omega) hst_4 ⟨_, _, rfl⟩ ⟨rfl, rfl⟩ rfl hl.1 rfl (Nat.le_of_ble_eq_true rfl) ⟨Nat.zero_le _, Nat.zero_le _⟩ dX2_ask_58 (fun r_58 g_5 H locs q_5 hP hS => ?_)
          obtain ⟨q_58, h_b___9__5, f_5⟩ := q_5
          subst q_58
          have hb_5 : g_5 b = .inr (2, [.ref (ad (b + 1)), .ref (ad (b + 2)), .ref (ad (b + 3)), .ref (ad (b + 4)), .ref (ad (b + 5)), .ref (ad (b + 6)), .ref (ad (b + 7)), .ref (ad (b + 8)), .ref (ad (b + 9)), .long gk, .int sd, .int (nI (qk (aS t gk Q m9 a))), .int go3, .int an9]) := (f_5 b (by omega)).trans hb_3
          have hb___1_5 : g_5 (b + 1) = .inl (cy 2, 1500, .inr (.inl SE3)) := (f_5 (b + 1) (by omega)).trans hb___1_3
          have hb___2_5 : g_5 (b + 2) = .inl (cy 2, 1500, .inr (.inl OV3)) := (f_5 (b + 2) (by omega)).trans hb___2_3
          have hb___3_5 : g_5 (b + 3) = .inl (cy 2, 1500, .inr (.inl KY3)) := (f_5 (b + 3) (by omega)).trans hb___3_3
          have hb___4_5 : g_5 (b + 4) = .inl (cy 1, 1500, .inl PA3) := (f_5 (b + 4) (by omega)).trans hb___4_3
          have hb___5_5 : g_5 (b + 5) = .inl (cy 1, 1500, .inl AC3) := (f_5 (b + 5) (by omega)).trans hb___5_3
          have hb___6_5 : g_5 (b + 6) = .inl (cy 1, 4096, .inl (fun x9 => nI (SL3 x9))) := (f_5 (b + 6) (by omega)).trans hb___6_3
          have hb___8_5 : g_5 (b + 8) = .inr (8, [.int (nI (wn t)), .long (lN (sea (wd t) (wn t))), .int (nI (wf t)), .int (nI (wh t)), .long (lN (wo t))]) := (f_5 (b + 8) (by omega)).trans hb___8_3
          have hb___7_5 : g_5 (b + 7) = .inr (8, [.int (nI (wn u)), .long (lN (sea (wd u) (wn u))), .int (nI (wf u)), .int (nI (wh u)), .long (lN (wo u))]) := (f_5 (b + 7) (by omega)).trans hb___7_3
          have hfr_5 : ∀ j : Nat, j ≠ b → j ≠ (b + 1) → j ≠ (b + 2) → j ≠ (b + 3) → j ≠ (b + 4) → j ≠ (b + 5) → j ≠ (b + 6) → j ≠ (b + 9) → g_5 j = g j := fun j n0 n1 n2 n3 n4 n5 n6 n7 => (f_5 j n7).trans (hfr_3 j n0 n1 n2 n3 n4 n5 n6 n7)
          refine lv_iconst (v := nI (1)) hx hb dX2_ask_61 (by decide) ?_
          refine lv_icmp_ne (tgt := 71) hx hb dX2_ask_62 (by decide) (fun c_62 => ?_) (fun c_62 => ?_)
          · skip
            have hC9 : ¬ (chg (qM Q m9) (nI (a % 2)) (nI (a / 2))).1 = 1 := c_62
            have hch := chg_fh (a := a) hM.1 (by omega)
            have hE9 : aS t gk Q m9 (a + 1) = aS t gk Q m9 a := aS_nc hg9 hC9
            have hR9 : SRel SE3 OV3 KY3 PA3 AC3 SL3 go3 (aS t gk Q m9 (a + 1)) n f h := by rw [hE9]; exact hrel3
            refine lv_iinc (v := nI (a + 1)) (lv' := [(2, .int (nI (a + 1))), (0, .ref (ad b)), (1, .int (nI (m9)))]) hx hb dX2_ask_71 hl (k := 0) rfl (by exact nI_add a 1) (by decide) rfl (fun ls hl => ?_)
            refine lv_goto (tgt := 2) hx hb dX2_ask_74 (by decide) ?_
            exact ih2 (a + 1) SE3 OV3 KY3 PA3 AC3 SL3 go3 ((chg (qM Q m9) (nI (a % 2)) (nI (a / 2))).2) (by omega) hR9 ⟨hch.1, hch.2.1.trans hM.2.1, hch.2.2.1.trans hM.2.2.1, hch.2.2.2.trans hM.2.2.2⟩ (by omega) g_5 _ _ (by rw [hE9]; exact hb_5) hb___1_5 hb___2_5 hb___3_5 hb___4_5 hb___5_5 hb___6_5 h_b___9__5 hfr_5 hP hS _ (lv_sub hl [0, 1, 2] rfl)
          · skip
            have hC9 : (chg (qM Q m9) (nI (a % 2)) (nI (a / 2))).1 = 1 := c_62
            have hch := chg_fh (a := a) hM.1 (by omega)
            refine lv_aload_n hx hb dX2_ask_65 rfl (lv_at hl 1 rfl) ?_
            refine lv_iload_n hx hb dX2_ask_66 rfl (lv_at hl 2 rfl) ?_
            refine lv_iload_n hx hb dX2_ask_67 rfl (lv_at hl 0 rfl) ?_
            refine kMv (As := [.int (nI (m9)), .int (nI (a))]) (rest := []) S hK hP hS (fun _ h => h) (c_X2_meet l D cy ad N g_5 hinj b (by omega) gk sd go3 an9 (aS t gk Q m9 a) n f h hb_5 SE3 hb___1_5 OV3 hb___2_5 KY3 hb___3_5 PA3 hb___4_5 AC3 hb___5_5 SL3 hb___6_5 hrel3 t hb___8_5 hot ((chg (qM Q m9) (nI (a % 2)) (nI (a / 2))).2) h_b___9__5 hch.1 (hch.2.1.trans hM.2.1) (hch.2.2.1.trans hM.2.2.1) (hch.2.2.2.trans hM.2.2.2) (nI (m9)) m9 (by rw [if_neg (by omega)]) (Or.inr (by omega)) a (by omega)) cv_X2_77 (by omega) hb_5 ⟨_, _, rfl⟩ ⟨rfl, rfl⟩ rfl hl.1 rfl (Nat.le_of_ble_eq_true rfl) ⟨Nat.zero_le _, Nat.zero_le _⟩ dX2_ask_68 (fun g_6 H locs q_6 hP hS => ?_)
            obtain ⟨SE2_6, OV2_6, KY2_6, PA2_6, AC2_6, SL2_6, go2_6, hrel2_6, hb_6, hb___1_6, hb___2_6, hb___3_6, hb___4_6, hb___5_6, hb___6_6, f_6⟩ := q_6
            have hb___8_6 : g_6 (b + 8) = .inr (8, [.int (nI (wn t)), .long (lN (sea (wd t) (wn t))), .int (nI (wf t)), .int (nI (wh t)), .long (lN (wo t))]) := (f_6 (b + 8) (by omega) (by omega) (by omega) (by omega) (by omega) (by omega) (by omega)).trans hb___8_5
            have hb___9_6 : g_6 (b + 9) = .inr (8, [.int (nI (wn ((chg (qM Q m9) (nI (a % 2)) (nI (a / 2))).2))), .long (lN (sea (wd ((chg (qM Q m9) (nI (a % 2)) (nI (a / 2))).2)) (wn ((chg (qM Q m9) (nI (a % 2)) (nI (a / 2))).2)))), .int (nI (wf ((chg (qM Q m9) (nI (a % 2)) (nI (a / 2))).2))), .int (nI (wh ((chg (qM Q m9) (nI (a % 2)) (nI (a / 2))).2))), .long (lN (wo ((chg (qM Q m9) (nI (a % 2)) (nI (a / 2))).2)))]) := (f_6 (b + 9) (by omega) (by omega) (by omega) (by omega) (by omega) (by omega) (by omega)).trans h_b___9__5
            have hb___7_6 : g_6 (b + 7) = .inr (8, [.int (nI (wn u)), .long (lN (sea (wd u) (wn u))), .int (nI (wf u)), .int (nI (wh u)), .long (lN (wo u))]) := (f_6 (b + 7) (by omega) (by omega) (by omega) (by omega) (by omega) (by omega) (by omega)).trans hb___7_5
            have hfr_6 : ∀ j : Nat, j ≠ b → j ≠ (b + 1) → j ≠ (b + 2) → j ≠ (b + 3) → j ≠ (b + 4) → j ≠ (b + 5) → j ≠ (b + 6) → j ≠ (b + 9) → g_6 j = g j := fun j n0 n1 n2 n3 n4 n5 n6 n7 => (f_6 j n0 n1 n2 n3 n4 n5 n6).trans (hfr_5 j n0 n1 n2 n3 n4 n5 n6 n7)
            have hE9 : aS t gk Q m9 (a + 1) = mt (aS t gk Q m9 a) (chg (qM Q m9) (nI (a % 2)) (nI (a / 2))).2 t gk m9 a := aS_yes hg9 hC9
            have hR9 : SRel SE2_6 OV2_6 KY2_6 PA2_6 AC2_6 SL2_6 go2_6 (aS t gk Q m9 (a + 1)) n f h := by rw [hE9]; exact hrel2_6
            refine lv_iinc (v := nI (a + 1)) (lv' := [(2, .int (nI (a + 1))), (0, .ref (ad b)), (1, .int (nI (m9)))]) hx hb dX2_ask_71 hl (k := 0) rfl (by exact nI_add a 1) (by decide) rfl (fun ls hl => ?_)
            refine lv_goto (tgt := 2) hx hb dX2_ask_74 (by decide) ?_
            exact ih2 (a + 1) SE2_6 OV2_6 KY2_6 PA2_6 AC2_6 SL2_6 go2_6 ((chg (qM Q m9) (nI (a % 2)) (nI (a / 2))).2) (by omega) hR9 ⟨hch.1, hch.2.1.trans hM.2.1, hch.2.2.1.trans hM.2.2.1, hch.2.2.2.trans hM.2.2.2⟩ (by omega) g_6 _ _ (by rw [hE9]; exact hb_6) hb___1_6 hb___2_6 hb___3_6 hb___4_6 hb___5_6 hb___6_6 hb___9_6 hfr_6 hP hS _ (lv_sub hl [0, 1, 2] rfl)
  exact L2 ((2 * n - 0) + 1) 0 SE OV KY PA AC SL go w (by omega) hrel hw (Nat.lt_succ_self _) g _ _ hg he9 ho9 hk9 hp9 ha9 hs9 hw9 (fun j n0 n1 n2 n3 n4 n5 n6 n7 => hfr j ) hP hS _ (lv_sub hl [0, 1, 2] rfl)

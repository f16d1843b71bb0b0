set_option maxHeartbeats 4000000 in
set_option maxRecDepth 100000 in
theorem c_X2_meet (l : Launch) (D : va_G) (cy : Nat → ClassId) (ad : Nat → Nat) (N : Nat) (g : Nat → va_E) (hinj : ∀ i j : Nat, i < N → j < N → ad i = ad j → i = j) (b : Nat) (hbN : b + 10 ≤ N) (gk : Int64) (sd : Int32) (go : Int32) (an9 : Int32) (Q : QS) (n : Nat) (f : Nat) (h : Nat) (hg : g b = .inr (2, [.ref (ad (b + 1)), .ref (ad (b + 2)), .ref (ad (b + 3)), .ref (ad (b + 4)), .ref (ad (b + 5)), .ref (ad (b + 6)), .ref (ad (b + 7)), .ref (ad (b + 8)), .ref (ad (b + 9)), .long gk, .int sd, .int (nI (qk Q)), .int go, .int an9])) (SE : Nat → Int64) (he9 : g (b + 1) = .inl (cy 2, 1500, .inr (.inl SE))) (OV : Nat → Int64) (ho9 : g (b + 2) = .inl (cy 2, 1500, .inr (.inl OV))) (KY : Nat → Int64) (hk9 : g (b + 3) = .inl (cy 2, 1500, .inr (.inl KY))) (PA : Nat → Int32) (hp9 : g (b + 4) = .inl (cy 1, 1500, .inl PA)) (AC : Nat → Int32) (ha9 : g (b + 5) = .inl (cy 1, 1500, .inl AC)) (SL : Nat → Nat) (hs9 : g (b + 6) = .inl (cy 1, 4096, .inl (fun x9 => nI (SL x9)))) (hrel : SRel SE OV KY PA AC SL go Q n f h) (t : WT) (ht9 : g (b + 8) = .inr (8, [.int (nI (wn t)), .long (lN (sea (wd t) (wn t))), .int (nI (wf t)), .int (nI (wh t)), .long (lN (wo t))])) (hot : WOK t) (w : WT) (hw9 : g (b + 9) = .inr (8, [.int (nI (wn w)), .long (lN (sea (wd w) (wn w))), .int (nI (wf w)), .int (nI (wh w)), .long (lN (wo w))])) (hw : WOK w) (hwn : wn w = n) (hwf : wf w = f) (hwh : wh w = h) (pr : Int32) (p9 : Nat) (hpr : pr = if qk Q = 0 then -1 else nI p9) (hp9q : qk Q = 0 ∨ p9 < qk Q) (a9 : Nat) (ha16 : a9 < 16) : Met l yX2_meet (WS yX2_meet cX2_meet 6 none) (rmF 3 61) (PP [.ref (ad b), .int pr, .int (nI (a9))] D cy ad N g) (QV (fun g1 => ∃ (SE2 : Nat → Int64), ∃ (OV2 : Nat → Int64), ∃ (KY2 : Nat → Int64), ∃ (PA2 : Nat → Int32), ∃ (AC2 : Nat → Int32), ∃ (SL2 : Nat → Nat), ∃ (go2 : Int32), (SRel SE2 OV2 KY2 PA2 AC2 SL2 go2 (mt Q w t gk p9 a9) n f h) ∧ g1 b = .inr (2, [.ref (ad (b + 1)), .ref (ad (b + 2)), .ref (ad (b + 3)), .ref (ad (b + 4)), .ref (ad (b + 5)), .ref (ad (b + 6)), .ref (ad (b + 7)), .ref (ad (b + 8)), .ref (ad (b + 9)), .long gk, .int sd, .int (nI (qk (mt Q w t gk p9 a9))), .int go2, .int an9]) ∧ g1 (b + 1) = .inl (cy 2, 1500, .inr (.inl SE2)) ∧ g1 (b + 2) = .inl (cy 2, 1500, .inr (.inl OV2)) ∧ g1 (b + 3) = .inl (cy 2, 1500, .inr (.inl KY2)) ∧ g1 (b + 4) = .inl (cy 1, 1500, .inl PA2) ∧ g1 (b + 5) = .inl (cy 1, 1500, .inl AC2) ∧ g1 (b + 6) = .inl (cy 1, 4096, .inl (fun x9 => nI (SL2 x9))) ∧ (∀ j, j ≠ b → j ≠ (b + 1) → j ≠ (b + 2) → j ≠ (b + 3) → j ≠ (b + 4) → j ≠ (b + 5) → j ≠ (b + 6) → g1 j = g j)) D ad N) 0 0 (AA ad N) := by
  refine mentry (by decide) (Nat.le_of_ble_eq_true rfl) (fun p e s m below meth c ls S hr hlk hnm hP hK hl => ?_)
  have S : CallFix p m c cX2_meet 6 s _ wsL_law RX2 := S
  have hx := S.1
  have hb := S.2.1
  have hl : lv_has ls 6 [(0, .ref (ad b)), (1, .int pr), (2, .int (nI (a9)))] := hl
  have hI : MD (AA ad N) ad N := MD.in hinj
  have hS : va_S (AA ad N) s.heap s.heap [] := va_S.rf
  have hfr : ∀ j : Nat, g j = g j := fun _ => rfl
  have hn4 := hw.1.1
  have hn8 := hw.1.2
  have hpm := hw.2.1
  have hda := hpm.1
  have hf := lt256 hw.2.2.1 hn8
  have hh := lt256 hw.2.2.2.1 hn8
  have ho := hw.2.2.2.2.1
  have hto := hot.2.2.2.2.1
  have hth := lt256 hot.2.2.2.1 hot.1.2
  obtain ⟨s9, hs9e⟩ : ∃ s9, slt SL KY OV (kyW w) (lN (wo w)) = s9 := ⟨_, rfl⟩
  have hs9l : s9 < 4096 := by rw [← hs9e]; exact slt_lt
  have hmc := hrel.1
  have hSL : ∀ s, s < 4096 → SL s ≤ 1500 := fun s hs => Nat.le_trans (hrel.2.1.1 s hs) hmc
  have hSs := hSL s9 hs9l
  have hiM := isMet_iff hrel w
  rw [hs9e] at hiM
  refine lv_aload_n hx hb dX2_meet_0 rfl (lv_at hl 0 rfl) ?_
  refine mg S hK hP (by omega) hg fd_X2_41 rfl dX2_meet_1 ?_
  refine kVl (As := []) (rest := []) S hK hP (c_X8_seatsFromFirst l D cy ad N g (b + 9) (by omega) (wn w) (wd w) (wf w) (wh w) (wo w) hw9 hn4 hn8 (wp w) hpm) cv_X2_56 (by omega) hw9 ⟨_, _, rfl⟩ ⟨rfl, rfl⟩ rfl hl.1 rfl (Nat.le_of_ble_eq_true rfl) ⟨Nat.zero_le _, Nat.zero_le _⟩ dX2_meet_4 (fun r_4 q_4 => ?_)
  subst q_4
  refine tpl (rfl) ?_
  refine lv_lstore_n (lv' := [(3, .long (kyW w)), (0, .ref (ad b)), (1, .int pr), (2, .int (nI (a9)))]) hx hb dX2_meet_7 rfl hl (by decide) rfl (fun ls hl => ?_)
  refine lv_aload_n hx hb dX2_meet_8 rfl (lv_at hl 1 rfl) ?_
  refine lv_lload_n hx hb dX2_meet_9 rfl (lv_at hl 0 rfl) ?_
  refine lv_aload_n hx hb dX2_meet_10 rfl (lv_at hl 1 rfl) ?_
  refine mg S hK hP (by omega) hg fd_X2_41 rfl dX2_meet_11 ?_
  refine mg S hK hP (by omega) hw9 fd_X2_101 rfl dX2_meet_14 ?_
  refine kVi (As := [.long (kyW w), .long (lN (wo w))]) (rest := []) S hK hP (c_X2_slotOf l D cy ad N g b (by omega) gk sd (qk Q) go an9 hg KY hk9 OV ho9 SL hs9 hSL (kyW w) (lN (wo w))) cv_X2_107 (by omega) hg ⟨_, _, rfl⟩ ⟨rfl, rfl⟩ rfl hl.1 rfl (Nat.le_of_ble_eq_true rfl) ⟨Nat.zero_le _, Nat.zero_le _⟩ dX2_meet_17 (fun r_17 q_17 => ?_)
  subst q_17
  refine tpi (congrArg nI hs9e) ?_
  refine lv_istore (lv' := [(5, .int (nI (s9))), (3, .long (kyW w)), (0, .ref (ad b)), (1, .int pr), (2, .int (nI (a9)))]) hx hb dX2_meet_20 hl (by decide) rfl (fun ls hl => ?_)
  refine lv_aload_n hx hb dX2_meet_22 rfl (lv_at hl 2 rfl) ?_
  refine mg S hK hP (by omega) hg fd_X2_28 rfl dX2_meet_23 ?_
  refine lv_iload hx hb dX2_meet_26 (lv_at hl 0 rfl) ?_
  refine mial S hK hP (by omega) hs9 (vp_in_nI (by omega) (by omega)) dX2_meet_28 ?_
  refine tpi (congrArg ((fun x9 => nI (SL x9))) (nI_clamp (by omega))) ?_
  refine lv_if_ne (tgt := 42) hx hb dX2_meet_29 (by decide) (fun c_29 => ?_) (fun c_29 => ?_)
  · skip
    have c_29 := (not_congr (z_eq (by omega))).mp c_29
    have hQ : isMet Q w = true ∨ 1500 ≤ qk Q := Or.inl (hiM.mpr c_29)
    exact rMv S hr hlk hP hS ⟨SE, OV, KY, PA, AC, SL, go, (by rw [mt_no hQ]; exact hrel), (by first | exact hg | (rw [mt_no hQ]; exact hg)), (by first | exact he9 | (rw [mt_no hQ]; exact he9)), (by first | exact ho9 | (rw [mt_no hQ]; exact ho9)), (by first | exact hk9 | (rw [mt_no hQ]; exact hk9)), (by first | exact hp9 | (rw [mt_no hQ]; exact hp9)), (by first | exact ha9 | (rw [mt_no hQ]; exact ha9)), (by first | exact hs9 | (rw [mt_no hQ]; exact hs9)), (fun j n0 n1 n2 n3 n4 n5 n6 => hfr j )⟩ dX2_meet_42
  · skip
    have c_29 := (z_eq (by omega)).mp c_29
    refine lv_aload_n hx hb dX2_meet_32 rfl (lv_at hl 2 rfl) ?_
    refine mg S hK hP (by omega) hg fd_X2_70 rfl dX2_meet_33 ?_
    refine lv_sipush (v := nI (1500)) hx hb dX2_meet_36 (by decide) ?_
    refine lv_icmp_lt (tgt := 43) hx hb dX2_meet_39 (by decide) (fun c_39 => ?_) (fun c_39 => ?_)
    · skip
      have c_39 := (nI_ltI (by omega) (by omega)).mp c_39
      have hQ : ¬ isMet Q w = true := fun e => hiM.mp e c_29
      refine lv_aload_n hx hb dX2_meet_43 rfl (lv_at hl 2 rfl) ?_
      refine mg S hK hP (by omega) hg fd_X2_9 rfl dX2_meet_44 ?_
      refine lv_aload_n hx hb dX2_meet_47 rfl (lv_at hl 2 rfl) ?_
      refine mg S hK hP (by omega) hg fd_X2_70 rfl dX2_meet_48 ?_
      refine lv_aload_n hx hb dX2_meet_51 rfl (lv_at hl 2 rfl) ?_
      refine mg S hK hP (by omega) hg fd_X2_41 rfl dX2_meet_52 ?_
      refine mg S hK hP (by omega) hw9 fd_X2_99 rfl dX2_meet_55 ?_
      refine mlas S hK hP hI hS (by omega) he9 (vp_in_nI (by omega) (by omega)) dX2_meet_58 (fun g_1 H locs eg_1 hP hS => ?_)
      have hb___1_1 : g_1 (b + 1) = .inl (cy 2, 1500, .inr (.inl (vp_updL SE (qk Q) (lN (sea (wd w) (wn w)))))) := by rw [eg_1, va_up_self]; exact (arrL_up (by omega))
      have hb_1 : g_1 b = .inr (2, [.ref (ad (b + 1)), .ref (ad (b + 2)), .ref (ad (b + 3)), .ref (ad (b + 4)), .ref (ad (b + 5)), .ref (ad (b + 6)), .ref (ad (b + 7)), .ref (ad (b + 8)), .ref (ad (b + 9)), .long gk, .int sd, .int (nI (qk Q)), .int go, .int an9]) := ((congrFun eg_1 _).trans (va_up_ne _ _ (by omega))).trans hg
      have hb___2_1 : g_1 (b + 2) = .inl (cy 2, 1500, .inr (.inl OV)) := ((congrFun eg_1 _).trans (va_up_ne _ _ (by omega))).trans ho9
      have hb___3_1 : g_1 (b + 3) = .inl (cy 2, 1500, .inr (.inl KY)) := ((congrFun eg_1 _).trans (va_up_ne _ _ (by omega))).trans hk9
      have hb___4_1 : g_1 (b + 4) = .inl (cy 1, 1500, .inl PA) := ((congrFun eg_1 _).trans (va_up_ne _ _ (by omega))).trans hp9
      have hb___5_1 : g_1 (b + 5) = .inl (cy 1, 1500, .inl AC) := ((congrFun eg_1 _).trans (va_up_ne _ _ (by omega))).trans ha9
      have hb___6_1 : g_1 (b + 6) = .inl (cy 1, 4096, .inl (fun x9 => nI (SL x9))) := ((congrFun eg_1 _).trans (va_up_ne _ _ (by omega))).trans hs9
      have hb___8_1 : g_1 (b + 8) = .inr (8, [.int (nI (wn t)), .long (lN (sea (wd t) (wn t))), .int (nI (wf t)), .int (nI (wh t)), .long (lN (wo t))]) := ((congrFun eg_1 _).trans (va_up_ne _ _ (by omega))).trans ht9
      have hb___9_1 : g_1 (b + 9) = .inr (8, [.int (nI (wn w)), .long (lN (sea (wd w) (wn w))), .int (nI (wf w)), .int (nI (wh w)), .long (lN (wo w))]) := ((congrFun eg_1 _).trans (va_up_ne _ _ (by omega))).trans hw9
      have hfr_1 : ∀ j : Nat, j ≠ (b + 1) → g_1 j = g j := fun j n0 => ((congrFun eg_1 _).trans (va_up_ne _ _ n0)).trans (hfr j )
      refine lv_aload_n hx hb dX2_meet_59 rfl (lv_at hl 2 rfl) ?_
      refine mg S hK hP (by omega) hb_1 fd_X2_15 rfl dX2_meet_60 ?_
      refine lv_aload_n hx hb dX2_meet_63 rfl (lv_at hl 2 rfl) ?_
      refine mg S hK hP (by omega) hb_1 fd_X2_70 rfl dX2_meet_64 ?_
      refine lv_aload_n hx hb dX2_meet_67 rfl (lv_at hl 2 rfl) ?_
      refine mg S hK hP (by omega) hb_1 fd_X2_41 rfl dX2_meet_68 ?_
      refine mg S hK hP (by omega) hb___9_1 fd_X2_101 rfl dX2_meet_71 ?_
      refine mlas S hK hP hI hS (by omega) hb___2_1 (vp_in_nI (by omega) (by omega)) dX2_meet_74 (fun g_2 H locs eg_2 hP hS => ?_)
      have hb___2_2 : g_2 (b + 2) = .inl (cy 2, 1500, .inr (.inl (vp_updL OV (qk Q) (lN (wo w))))) := by rw [eg_2, va_up_self]; exact (arrL_up (by omega))
      have hb_2 : g_2 b = .inr (2, [.ref (ad (b + 1)), .ref (ad (b + 2)), .ref (ad (b + 3)), .ref (ad (b + 4)), .ref (ad (b + 5)), .ref (ad (b + 6)), .ref (ad (b + 7)), .ref (ad (b + 8)), .ref (ad (b + 9)), .long gk, .int sd, .int (nI (qk Q)), .int go, .int an9]) := ((congrFun eg_2 _).trans (va_up_ne _ _ (by omega))).trans hb_1
      have hb___1_2 : g_2 (b + 1) = .inl (cy 2, 1500, .inr (.inl (vp_updL SE (qk Q) (lN (sea (wd w) (wn w)))))) := ((congrFun eg_2 _).trans (va_up_ne _ _ (by omega))).trans hb___1_1
      have hb___3_2 : g_2 (b + 3) = .inl (cy 2, 1500, .inr (.inl KY)) := ((congrFun eg_2 _).trans (va_up_ne _ _ (by omega))).trans hb___3_1
      have hb___4_2 : g_2 (b + 4) = .inl (cy 1, 1500, .inl PA) := ((congrFun eg_2 _).trans (va_up_ne _ _ (by omega))).trans hb___4_1
      have hb___5_2 : g_2 (b + 5) = .inl (cy 1, 1500, .inl AC) := ((congrFun eg_2 _).trans (va_up_ne _ _ (by omega))).trans hb___5_1
      have hb___6_2 : g_2 (b + 6) = .inl (cy 1, 4096, .inl (fun x9 => nI (SL x9))) := ((congrFun eg_2 _).trans (va_up_ne _ _ (by omega))).trans hb___6_1
      have hb___8_2 : g_2 (b + 8) = .inr (8, [.int (nI (wn t)), .long (lN (sea (wd t) (wn t))), .int (nI (wf t)), .int (nI (wh t)), .long (lN (wo t))]) := ((congrFun eg_2 _).trans (va_up_ne _ _ (by omega))).trans hb___8_1
      have hb___9_2 : g_2 (b + 9) = .inr (8, [.int (nI (wn w)), .long (lN (sea (wd w) (wn w))), .int (nI (wf w)), .int (nI (wh w)), .long (lN (wo w))]) := ((congrFun eg_2 _).trans (va_up_ne _ _ (by omega))).trans hb___9_1
      have hfr_2 : ∀ j : Nat, j ≠ (b + 1) → j ≠ (b + 2) → g_2 j = g j := fun j n0 n1 => ((congrFun eg_2 _).trans (va_up_ne _ _ n1)).trans (hfr_1 j n0)
      refine lv_aload_n hx hb dX2_meet_75 rfl (lv_at hl 2 rfl) ?_
      refine mg S hK hP (by omega) hb_2 fd_X2_18 rfl dX2_meet_76 ?_
      refine lv_aload_n hx hb dX2_meet_79 rfl (lv_at hl 2 rfl) ?_
      refine mg S hK hP (by omega) hb_2 fd_X2_70 rfl dX2_meet_80 ?_
      refine lv_lload_n hx hb dX2_meet_83 rfl (lv_at hl 1 rfl) ?_
      refine mlas S hK hP hI hS (by omega) hb___3_2 (vp_in_nI (by omega) (by omega)) dX2_meet_84 (fun g_3 H locs eg_3 hP hS => ?_)
      have hb___3_3 : g_3 (b + 3) = .inl (cy 2, 1500, .inr (.inl (vp_updL KY (qk Q) (kyW w)))) := by rw [eg_3, va_up_self]; exact (arrL_up (by omega))
      have hb_3 : g_3 b = .inr (2, [.ref (ad (b + 1)), .ref (ad (b + 2)), .ref (ad (b + 3)), .ref (ad (b + 4)), .ref (ad (b + 5)), .ref (ad (b + 6)), .ref (ad (b + 7)), .ref (ad (b + 8)), .ref (ad (b + 9)), .long gk, .int sd, .int (nI (qk Q)), .int go, .int an9]) := ((congrFun eg_3 _).trans (va_up_ne _ _ (by omega))).trans hb_2
      have hb___1_3 : g_3 (b + 1) = .inl (cy 2, 1500, .inr (.inl (vp_updL SE (qk Q) (lN (sea (wd w) (wn w)))))) := ((congrFun eg_3 _).trans (va_up_ne _ _ (by omega))).trans hb___1_2
      have hb___2_3 : g_3 (b + 2) = .inl (cy 2, 1500, .inr (.inl (vp_updL OV (qk Q) (lN (wo w))))) := ((congrFun eg_3 _).trans (va_up_ne _ _ (by omega))).trans hb___2_2
      have hb___4_3 : g_3 (b + 4) = .inl (cy 1, 1500, .inl PA) := ((congrFun eg_3 _).trans (va_up_ne _ _ (by omega))).trans hb___4_2
      have hb___5_3 : g_3 (b + 5) = .inl (cy 1, 1500, .inl AC) := ((congrFun eg_3 _).trans (va_up_ne _ _ (by omega))).trans hb___5_2
      have hb___6_3 : g_3 (b + 6) = .inl (cy 1, 4096, .inl (fun x9 => nI (SL x9))) := ((congrFun eg_3 _).trans (va_up_ne _ _ (by omega))).trans hb___6_2
      have hb___8_3 : g_3 (b + 8) = .inr (8, [.int (nI (wn t)), .long (lN (sea (wd t) (wn t))), .int (nI (wf t)), .int (nI (wh t)), .long (lN (wo t))]) := ((congrFun eg_3 _).trans (va_up_ne _ _ (by omega))).trans hb___8_2
      have hb___9_3 : g_3 (b + 9) = .inr (8, [.int (nI (wn w)), .long (lN (sea (wd w) (wn w))), .int (nI (wf w)), .int (nI (wh w)), .long (lN (wo w))]) := ((congrFun eg_3 _).trans (va_up_ne _ _ (by omega))).trans hb___9_2
      have hfr_3 : ∀ j : Nat, j ≠ (b + 1) → j ≠ (b + 2) → j ≠ (b + 3) → g_3 j = g j := fun j n0 n1 n2 => ((congrFun eg_3 _).trans (va_up_ne _ _ n2)).trans (hfr_2 j n0 n1)
      refine lv_aload_n hx hb dX2_meet_85 rfl (lv_at hl 2 rfl) ?_
      refine mg S hK hP (by omega) hb_3 fd_X2_21 rfl dX2_meet_86 ?_
      refine lv_aload_n hx hb dX2_meet_89 rfl (lv_at hl 2 rfl) ?_
      refine mg S hK hP (by omega) hb_3 fd_X2_70 rfl dX2_meet_90 ?_
      refine lv_iload_n hx hb dX2_meet_93 rfl (lv_at hl 3 rfl) ?_
      refine mias S hK hP hI hS (by omega) hb___4_3 (vp_in_nI (by omega) (by omega)) dX2_meet_94 (fun g_4 H locs eg_4 hP hS => ?_)
      have hb___4_4 : g_4 (b + 4) = .inl (cy 1, 1500, .inl (upd PA (qk Q) pr)) := by rw [eg_4, va_up_self]; exact (arrI_up (by omega))
      have hb_4 : g_4 b = .inr (2, [.ref (ad (b + 1)), .ref (ad (b + 2)), .ref (ad (b + 3)), .ref (ad (b + 4)), .ref (ad (b + 5)), .ref (ad (b + 6)), .ref (ad (b + 7)), .ref (ad (b + 8)), .ref (ad (b + 9)), .long gk, .int sd, .int (nI (qk Q)), .int go, .int an9]) := ((congrFun eg_4 _).trans (va_up_ne _ _ (by omega))).trans hb_3
      have hb___1_4 : g_4 (b + 1) = .inl (cy 2, 1500, .inr (.inl (vp_updL SE (qk Q) (lN (sea (wd w) (wn w)))))) := ((congrFun eg_4 _).trans (va_up_ne _ _ (by omega))).trans hb___1_3
      have hb___2_4 : g_4 (b + 2) = .inl (cy 2, 1500, .inr (.inl (vp_updL OV (qk Q) (lN (wo w))))) := ((congrFun eg_4 _).trans (va_up_ne _ _ (by omega))).trans hb___2_3
      have hb___3_4 : g_4 (b + 3) = .inl (cy 2, 1500, .inr (.inl (vp_updL KY (qk Q) (kyW w)))) := ((congrFun eg_4 _).trans (va_up_ne _ _ (by omega))).trans hb___3_3
      have hb___5_4 : g_4 (b + 5) = .inl (cy 1, 1500, .inl AC) := ((congrFun eg_4 _).trans (va_up_ne _ _ (by omega))).trans hb___5_3
      have hb___6_4 : g_4 (b + 6) = .inl (cy 1, 4096, .inl (fun x9 => nI (SL x9))) := ((congrFun eg_4 _).trans (va_up_ne _ _ (by omega))).trans hb___6_3
      have hb___8_4 : g_4 (b + 8) = .inr (8, [.int (nI (wn t)), .long (lN (sea (wd t) (wn t))), .int (nI (wf t)), .int (nI (wh t)), .long (lN (wo t))]) := ((congrFun eg_4 _).trans (va_up_ne _ _ (by omega))).trans hb___8_3
      have hb___9_4 : g_4 (b + 9) = .inr (8, [.int (nI (wn w)), .long (lN (sea (wd w) (wn w))), .int (nI (wf w)), .int (nI (wh w)), .long (lN (wo w))]) := ((congrFun eg_4 _).trans (va_up_ne _ _ (by omega))).trans hb___9_3
      have hfr_4 : ∀ j : Nat, j ≠ (b + 1) → j ≠ (b + 2) → j ≠ (b + 3) → j ≠ (b + 4) → g_4 j = g j := fun j n0 n1 n2 n3 => ((congrFun eg_4 _).trans (va_up_ne _ _ n3)).trans (hfr_3 j n0 n1 n2)
      refine lv_aload_n hx hb dX2_meet_95 rfl (lv_at hl 2 rfl) ?_
      refine mg S hK hP (by omega) hb_4 fd_X2_25 rfl dX2_meet_96 ?_
      refine lv_aload_n hx hb dX2_meet_99 rfl (lv_at hl 2 rfl) ?_
      refine mg S hK hP (by omega) hb_4 fd_X2_70 rfl dX2_meet_100 ?_
      refine lv_iload_n hx hb dX2_meet_103 rfl (lv_at hl 4 rfl) ?_
      refine mias S hK hP hI hS (by omega) hb___5_4 (vp_in_nI (by omega) (by omega)) dX2_meet_104 (fun g_5 H locs eg_5 hP hS => ?_)
      have hb___5_5 : g_5 (b + 5) = .inl (cy 1, 1500, .inl (upd AC (qk Q) (nI (a9)))) := by rw [eg_5, va_up_self]; exact (arrI_up (by omega))
      have hb_5 : g_5 b = .inr (2, [.ref (ad (b + 1)), .ref (ad (b + 2)), .ref (ad (b + 3)), .ref (ad (b + 4)), .ref (ad (b + 5)), .ref (ad (b + 6)), .ref (ad (b + 7)), .ref (ad (b + 8)), .ref (ad (b + 9)), .long gk, .int sd, .int (nI (qk Q)), .int go, .int an9]) := ((congrFun eg_5 _).trans (va_up_ne _ _ (by omega))).trans hb_4
      have hb___1_5 : g_5 (b + 1) = .inl (cy 2, 1500, .inr (.inl (vp_updL SE (qk Q) (lN (sea (wd w) (wn w)))))) := ((congrFun eg_5 _).trans (va_up_ne _ _ (by omega))).trans hb___1_4
      have hb___2_5 : g_5 (b + 2) = .inl (cy 2, 1500, .inr (.inl (vp_updL OV (qk Q) (lN (wo w))))) := ((congrFun eg_5 _).trans (va_up_ne _ _ (by omega))).trans hb___2_4
      have hb___3_5 : g_5 (b + 3) = .inl (cy 2, 1500, .inr (.inl (vp_updL KY (qk Q) (kyW w)))) := ((congrFun eg_5 _).trans (va_up_ne _ _ (by omega))).trans hb___3_4
      have hb___4_5 : g_5 (b + 4) = .inl (cy 1, 1500, .inl (upd PA (qk Q) pr)) := ((congrFun eg_5 _).trans (va_up_ne _ _ (by omega))).trans hb___4_4
      have hb___6_5 : g_5 (b + 6) = .inl (cy 1, 4096, .inl (fun x9 => nI (SL x9))) := ((congrFun eg_5 _).trans (va_up_ne _ _ (by omega))).trans hb___6_4
      have hb___8_5 : g_5 (b + 8) = .inr (8, [.int (nI (wn t)), .long (lN (sea (wd t) (wn t))), .int (nI (wf t)), .int (nI (wh t)), .long (lN (wo t))]) := ((congrFun eg_5 _).trans (va_up_ne _ _ (by omega))).trans hb___8_4
      have hb___9_5 : g_5 (b + 9) = .inr (8, [.int (nI (wn w)), .long (lN (sea (wd w) (wn w))), .int (nI (wf w)), .int (nI (wh w)), .long (lN (wo w))]) := ((congrFun eg_5 _).trans (va_up_ne _ _ (by omega))).trans hb___9_4
      have hfr_5 : ∀ j : Nat, j ≠ (b + 1) → j ≠ (b + 2) → j ≠ (b + 3) → j ≠ (b + 4) → j ≠ (b + 5) → g_5 j = g j := fun j n0 n1 n2 n3 n4 => ((congrFun eg_5 _).trans (va_up_ne _ _ n4)).trans (hfr_4 j n0 n1 n2 n3)
      refine lv_lload_n hx hb dX2_meet_105 rfl (lv_at hl 1 rfl) ?_
      refine lv_aload_n hx hb dX2_meet_106 rfl (lv_at hl 2 rfl) ?_
      refine mg S hK hP (by omega) hb_5 fd_X2_60 rfl dX2_meet_107 ?_
      refine W.lcmp hx hb dX2_meet_110 ?_
      refine lv_if_ne (tgt := 157) hx hb dX2_meet_111 (by decide) (fun c_111 => ?_) (fun c_111 => ?_)
      · skip
        have c_111 := (not_congr (lg_cmp_eq _ _)).mp c_111
        have hG : ¬ gB w t gk = true := by rw [gB_a c_111]; decide
        refine lv_aload_n hx hb dX2_meet_157 rfl (lv_at hl 2 rfl) ?_
        refine lv_dup hx hb dX2_meet_158 rfl ?_
        refine mg S hK hP (by omega) hb_5 fd_X2_70 rfl dX2_meet_159 ?_
        refine lv_iconst (v := nI (1)) hx hb dX2_meet_162 (by decide) ?_
        refine lv_iadd hx hb dX2_meet_163 ?_
        refine tpi (nI_add (qk Q) 1) ?_
        refine mp S hK hP hI hS (by omega) hb_5 fd_X2_70 rfl rfl (Nat.le_of_ble_eq_true rfl) dX2_meet_164 (fun g_6 H locs eg_6 hP hS => ?_)
        have hb_6 : g_6 b = .inr (2, [.ref (ad (b + 1)), .ref (ad (b + 2)), .ref (ad (b + 3)), .ref (ad (b + 4)), .ref (ad (b + 5)), .ref (ad (b + 6)), .ref (ad (b + 7)), .ref (ad (b + 8)), .ref (ad (b + 9)), .long gk, .int sd, .int (nI (qk Q + 1)), .int go, .int an9]) := by rw [eg_6, va_up_self]; exact rfl
        have hb___1_6 : g_6 (b + 1) = .inl (cy 2, 1500, .inr (.inl (vp_updL SE (qk Q) (lN (sea (wd w) (wn w)))))) := ((congrFun eg_6 _).trans (va_up_ne _ _ (by omega))).trans hb___1_5
        have hb___2_6 : g_6 (b + 2) = .inl (cy 2, 1500, .inr (.inl (vp_updL OV (qk Q) (lN (wo w))))) := ((congrFun eg_6 _).trans (va_up_ne _ _ (by omega))).trans hb___2_5
        have hb___3_6 : g_6 (b + 3) = .inl (cy 2, 1500, .inr (.inl (vp_updL KY (qk Q) (kyW w)))) := ((congrFun eg_6 _).trans (va_up_ne _ _ (by omega))).trans hb___3_5
        have hb___4_6 : g_6 (b + 4) = .inl (cy 1, 1500, .inl (upd PA (qk Q) pr)) := ((congrFun eg_6 _).trans (va_up_ne _ _ (by omega))).trans hb___4_5
        have hb___5_6 : g_6 (b + 5) = .inl (cy 1, 1500, .inl (upd AC (qk Q) (nI (a9)))) := ((congrFun eg_6 _).trans (va_up_ne _ _ (by omega))).trans hb___5_5
        have hb___6_6 : g_6 (b + 6) = .inl (cy 1, 4096, .inl (fun x9 => nI (SL x9))) := ((congrFun eg_6 _).trans (va_up_ne _ _ (by omega))).trans hb___6_5
        have hb___8_6 : g_6 (b + 8) = .inr (8, [.int (nI (wn t)), .long (lN (sea (wd t) (wn t))), .int (nI (wf t)), .int (nI (wh t)), .long (lN (wo t))]) := ((congrFun eg_6 _).trans (va_up_ne _ _ (by omega))).trans hb___8_5
        have hb___9_6 : g_6 (b + 9) = .inr (8, [.int (nI (wn w)), .long (lN (sea (wd w) (wn w))), .int (nI (wf w)), .int (nI (wh w)), .long (lN (wo w))]) := ((congrFun eg_6 _).trans (va_up_ne _ _ (by omega))).trans hb___9_5
        have hfr_6 : ∀ j : Nat, j ≠ (b + 1) → j ≠ (b + 2) → j ≠ (b + 3) → j ≠ (b + 4) → j ≠ (b + 5) → j ≠ b → g_6 j = g j := fun j n0 n1 n2 n3 n4 n5 => ((congrFun eg_6 _).trans (va_up_ne _ _ n5)).trans (hfr_5 j n0 n1 n2 n3 n4)
        refine lv_aload_n hx hb dX2_meet_167 rfl (lv_at hl 2 rfl) ?_
        refine mg S hK hP (by omega) hb_6 fd_X2_28 rfl dX2_meet_168 ?_
        refine lv_iload hx hb dX2_meet_171 (lv_at hl 0 rfl) ?_
        refine lv_aload_n hx hb dX2_meet_173 rfl (lv_at hl 2 rfl) ?_
        refine mg S hK hP (by omega) hb_6 fd_X2_70 rfl dX2_meet_174 ?_
        refine mias S hK hP hI hS (by omega) hb___6_6 (vp_in_nI (by omega) (by omega)) dX2_meet_177 (fun g_7 H locs eg_7 hP hS => ?_)
        have hb___6_7 : g_7 (b + 6) = .inl (cy 1, 4096, .inl (fun x9 => nI ((va_up SL s9 (qk Q + 1)) x9))) := by rw [eg_7, va_up_self]; exact (arrN_up (by omega))
        have hb_7 : g_7 b = .inr (2, [.ref (ad (b + 1)), .ref (ad (b + 2)), .ref (ad (b + 3)), .ref (ad (b + 4)), .ref (ad (b + 5)), .ref (ad (b + 6)), .ref (ad (b + 7)), .ref (ad (b + 8)), .ref (ad (b + 9)), .long gk, .int sd, .int (nI (qk Q + 1)), .int go, .int an9]) := ((congrFun eg_7 _).trans (va_up_ne _ _ (by omega))).trans hb_6
        have hb___1_7 : g_7 (b + 1) = .inl (cy 2, 1500, .inr (.inl (vp_updL SE (qk Q) (lN (sea (wd w) (wn w)))))) := ((congrFun eg_7 _).trans (va_up_ne _ _ (by omega))).trans hb___1_6
        have hb___2_7 : g_7 (b + 2) = .inl (cy 2, 1500, .inr (.inl (vp_updL OV (qk Q) (lN (wo w))))) := ((congrFun eg_7 _).trans (va_up_ne _ _ (by omega))).trans hb___2_6
        have hb___3_7 : g_7 (b + 3) = .inl (cy 2, 1500, .inr (.inl (vp_updL KY (qk Q) (kyW w)))) := ((congrFun eg_7 _).trans (va_up_ne _ _ (by omega))).trans hb___3_6
        have hb___4_7 : g_7 (b + 4) = .inl (cy 1, 1500, .inl (upd PA (qk Q) pr)) := ((congrFun eg_7 _).trans (va_up_ne _ _ (by omega))).trans hb___4_6
        have hb___5_7 : g_7 (b + 5) = .inl (cy 1, 1500, .inl (upd AC (qk Q) (nI (a9)))) := ((congrFun eg_7 _).trans (va_up_ne _ _ (by omega))).trans hb___5_6
        have hb___8_7 : g_7 (b + 8) = .inr (8, [.int (nI (wn t)), .long (lN (sea (wd t) (wn t))), .int (nI (wf t)), .int (nI (wh t)), .long (lN (wo t))]) := ((congrFun eg_7 _).trans (va_up_ne _ _ (by omega))).trans hb___8_6
        have hb___9_7 : g_7 (b + 9) = .inr (8, [.int (nI (wn w)), .long (lN (sea (wd w) (wn w))), .int (nI (wf w)), .int (nI (wh w)), .long (lN (wo w))]) := ((congrFun eg_7 _).trans (va_up_ne _ _ (by omega))).trans hb___9_6
        have hfr_7 : ∀ j : Nat, j ≠ (b + 1) → j ≠ (b + 2) → j ≠ (b + 3) → j ≠ (b + 4) → j ≠ (b + 5) → j ≠ b → j ≠ (b + 6) → g_7 j = g j := fun j n0 n1 n2 n3 n4 n5 n6 => ((congrFun eg_7 _).trans (va_up_ne _ _ n6)).trans (hfr_6 j n0 n1 n2 n3 n4 n5)
        exact rMv S hr hlk hP hS ⟨vp_updL SE (qk Q) (lN (sea (wd w) (wn w))), vp_updL OV (qk Q) (lN (wo w)), vp_updL KY (qk Q) (kyW w), upd PA (qk Q) pr, upd AC (qk Q) (nI a9), va_up SL s9 (qk Q + 1), if gB w t gk = true then nI (qk Q) else go, (mt_rel hrel hw hwn hwf hwh hp9q (by omega) hpr hs9e c_29 (by omega)), (by rw [mt_k hQ (by omega)]; first | (rw [if_pos hG]; exact hb_7) | (rw [if_neg hG]; exact hb_7)), hb___1_7, hb___2_7, hb___3_7, hb___4_7, hb___5_7, hb___6_7, (fun j n0 n1 n2 n3 n4 n5 n6 => hfr_7 j (by omega) (by omega) (by omega) (by omega) (by omega) (by omega) (by omega))⟩ dX2_meet_178
      · skip
        have c_111 := (lg_cmp_eq _ _).mp c_111
        refine lv_aload_n hx hb dX2_meet_114 rfl (lv_at hl 2 rfl) ?_
        refine mg S hK hP (by omega) hb_5 fd_X2_41 rfl dX2_meet_115 ?_
        refine mg S hK hP (by omega) hb___9_5 fd_X2_101 rfl dX2_meet_118 ?_
        refine lv_aload_n hx hb dX2_meet_121 rfl (lv_at hl 2 rfl) ?_
        refine mg S hK hP (by omega) hb_5 fd_X2_38 rfl dX2_meet_122 ?_
        refine mg S hK hP (by omega) hb___8_5 fd_X2_101 rfl dX2_meet_125 ?_
        refine W.lcmp hx hb dX2_meet_128 ?_
        refine lv_if_ne (tgt := 157) hx hb dX2_meet_129 (by decide) (fun c_129 => ?_) (fun c_129 => ?_)
        · skip
          have c_129 := (not_congr (lgN_eq ho hto)).mp c_129
          have hG : ¬ gB w t gk = true := by rw [gB_b c_129]; decide
          refine lv_aload_n hx hb dX2_meet_157 rfl (lv_at hl 2 rfl) ?_
          refine lv_dup hx hb dX2_meet_158 rfl ?_
          refine mg S hK hP (by omega) hb_5 fd_X2_70 rfl dX2_meet_159 ?_
          refine lv_iconst (v := nI (1)) hx hb dX2_meet_162 (by decide) ?_
          refine lv_iadd hx hb dX2_meet_163 ?_
          refine tpi (nI_add (qk Q) 1) ?_
          refine mp S hK hP hI hS (by omega) hb_5 fd_X2_70 rfl rfl (Nat.le_of_ble_eq_true rfl) dX2_meet_164 (fun g_8 H locs eg_8 hP hS => ?_)
          have hb_8 : g_8 b = .inr (2, [.ref (ad (b + 1)), .ref (ad (b + 2)), .ref (ad (b + 3)), .ref (ad (b + 4)), .ref (ad (b + 5)), .ref (ad (b + 6)), .ref (ad (b + 7)), .ref (ad (b + 8)), .ref (ad (b + 9)), .long gk, .int sd, .int (nI (qk Q + 1)), .int go, .int an9]) := by rw [eg_8, va_up_self]; exact rfl
          have hb___1_8 : g_8 (b + 1) = .inl (cy 2, 1500, .inr (.inl (vp_updL SE (qk Q) (lN (sea (wd w) (wn w)))))) := ((congrFun eg_8 _).trans (va_up_ne _ _ (by omega))).trans hb___1_5
          have hb___2_8 : g_8 (b + 2) = .inl (cy 2, 1500, .inr (.inl (vp_updL OV (qk Q) (lN (wo w))))) := ((congrFun eg_8 _).trans (va_up_ne _ _ (by omega))).trans hb___2_5
          have hb___3_8 : g_8 (b + 3) = .inl (cy 2, 1500, .inr (.inl (vp_updL KY (qk Q) (kyW w)))) := ((congrFun eg_8 _).trans (va_up_ne _ _ (by omega))).trans hb___3_5
          have hb___4_8 : g_8 (b + 4) = .inl (cy 1, 1500, .inl (upd PA (qk Q) pr)) := ((congrFun eg_8 _).trans (va_up_ne _ _ (by omega))).trans hb___4_5
          have hb___5_8 : g_8 (b + 5) = .inl (cy 1, 1500, .inl (upd AC (qk Q) (nI (a9)))) := ((congrFun eg_8 _).trans (va_up_ne _ _ (by omega))).trans hb___5_5
          have hb___6_8 : g_8 (b + 6) = .inl (cy 1, 4096, .inl (fun x9 => nI (SL x9))) := ((congrFun eg_8 _).trans (va_up_ne _ _ (by omega))).trans hb___6_5
          have hb___8_8 : g_8 (b + 8) = .inr (8, [.int (nI (wn t)), .long (lN (sea (wd t) (wn t))), .int (nI (wf t)), .int (nI (wh t)), .long (lN (wo t))]) := ((congrFun eg_8 _).trans (va_up_ne _ _ (by omega))).trans hb___8_5
          have hb___9_8 : g_8 (b + 9) = .inr (8, [.int (nI (wn w)), .long (lN (sea (wd w) (wn w))), .int (nI (wf w)), .int (nI (wh w)), .long (lN (wo w))]) := ((congrFun eg_8 _).trans (va_up_ne _ _ (by omega))).trans hb___9_5
          have hfr_8 : ∀ j : Nat, j ≠ (b + 1) → j ≠ (b + 2) → j ≠ (b + 3) → j ≠ (b + 4) → j ≠ (b + 5) → j ≠ b → g_8 j = g j := fun j n0 n1 n2 n3 n4 n5 => ((congrFun eg_8 _).trans (va_up_ne _ _ n5)).trans (hfr_5 j n0 n1 n2 n3 n4)
          refine lv_aload_n hx hb dX2_meet_167 rfl (lv_at hl 2 rfl) ?_
          refine mg S hK hP (by omega) hb_8 fd_X2_28 rfl dX2_meet_168 ?_
          refine lv_iload hx hb dX2_meet_171 (lv_at hl 0 rfl) ?_
          refine lv_aload_n hx hb dX2_meet_173 rfl (lv_at hl 2 rfl) ?_
          refine mg S hK hP (by omega) hb_8 fd_X2_70 rfl dX2_meet_174 ?_
          refine mias S hK hP hI hS (by omega) hb___6_8 (vp_in_nI (by omega) (by omega)) dX2_meet_177 (fun g_9 H locs eg_9 hP hS => ?_)
          have hb___6_9 : g_9 (b + 6) = .inl (cy 1, 4096, .inl (fun x9 => nI ((va_up SL s9 (qk Q + 1)) x9))) := by rw [eg_9, va_up_self]; exact (arrN_up (by omega))
          have hb_9 : g_9 b = .inr (2, [.ref (ad (b + 1)), .ref (ad (b + 2)), .ref (ad (b + 3)), .ref (ad (b + 4)), .ref (ad (b + 5)), .ref (ad (b + 6)), .ref (ad (b + 7)), .ref (ad (b + 8)), .ref (ad (b + 9)), .long gk, .int sd, .int (nI (qk Q + 1)), .int go, .int an9]) := ((congrFun eg_9 _).trans (va_up_ne _ _ (by omega))).trans hb_8
          have hb___1_9 : g_9 (b + 1) = .inl (cy 2, 1500, .inr (.inl (vp_updL SE (qk Q) (lN (sea (wd w) (wn w)))))) := ((congrFun eg_9 _).trans (va_up_ne _ _ (by omega))).trans hb___1_8
          have hb___2_9 : g_9 (b + 2) = .inl (cy 2, 1500, .inr (.inl (vp_updL OV (qk Q) (lN (wo w))))) := ((congrFun eg_9 _).trans (va_up_ne _ _ (by omega))).trans hb___2_8
          have hb___3_9 : g_9 (b + 3) = .inl (cy 2, 1500, .inr (.inl (vp_updL KY (qk Q) (kyW w)))) := ((congrFun eg_9 _).trans (va_up_ne _ _ (by omega))).trans hb___3_8
          have hb___4_9 : g_9 (b + 4) = .inl (cy 1, 1500, .inl (upd PA (qk Q) pr)) := ((congrFun eg_9 _).trans (va_up_ne _ _ (by omega))).trans hb___4_8
          have hb___5_9 : g_9 (b + 5) = .inl (cy 1, 1500, .inl (upd AC (qk Q) (nI (a9)))) := ((congrFun eg_9 _).trans (va_up_ne _ _ (by omega))).trans hb___5_8
          have hb___8_9 : g_9 (b + 8) = .inr (8, [.int (nI (wn t)), .long (lN (sea (wd t) (wn t))), .int (nI (wf t)), .int (nI (wh t)), .long (lN (wo t))]) := ((congrFun eg_9 _).trans (va_up_ne _ _ (by omega))).trans hb___8_8
          have hb___9_9 : g_9 (b + 9) = .inr (8, [.int (nI (wn w)), .long (lN (sea (wd w) (wn w))), .int (nI (wf w)), .int (nI (wh w)), .long (lN (wo w))]) := ((congrFun eg_9 _).trans (va_up_ne _ _ (by omega))).trans hb___9_8
          have hfr_9 : ∀ j : Nat, j ≠ (b + 1) → j ≠ (b + 2) → j ≠ (b + 3) → j ≠ (b + 4) → j ≠ (b + 5) → j ≠ b → j ≠ (b + 6) → g_9 j = g j := fun j n0 n1 n2 n3 n4 n5 n6 => ((congrFun eg_9 _).trans (va_up_ne _ _ n6)).trans (hfr_8 j n0 n1 n2 n3 n4 n5)
          exact rMv S hr hlk hP hS ⟨vp_updL SE (qk Q) (lN (sea (wd w) (wn w))), vp_updL OV (qk Q) (lN (wo w)), vp_updL KY (qk Q) (kyW w), upd PA (qk Q) pr, upd AC (qk Q) (nI a9), va_up SL s9 (qk Q + 1), if gB w t gk = true then nI (qk Q) else go, (mt_rel hrel hw hwn hwf hwh hp9q (by omega) hpr hs9e c_29 (by omega)), (by rw [mt_k hQ (by omega)]; first | (rw [if_pos hG]; exact hb_9) | (rw [if_neg hG]; exact hb_9)), hb___1_9, hb___2_9, hb___3_9, hb___4_9, hb___5_9, hb___6_9, (fun j n0 n1 n2 n3 n4 n5 n6 => hfr_9 j (by omega) (by omega) (by omega) (by omega) (by omega) (by omega) (by omega))⟩ dX2_meet_178
        · skip
          have c_129 := (lgN_eq ho hto).mp c_129
          refine lv_aload_n hx hb dX2_meet_132 rfl (lv_at hl 2 rfl) ?_
          refine mg S hK hP (by omega) hb_5 fd_X2_41 rfl dX2_meet_133 ?_
          refine mg S hK hP (by omega) hb___9_5 fd_X2_111 rfl dX2_meet_136 ?_
          refine lv_aload_n hx hb dX2_meet_139 rfl (lv_at hl 2 rfl) ?_
          refine mg S hK hP (by omega) hb_5 fd_X2_38 rfl dX2_meet_140 ?_
          refine mg S hK hP (by omega) hb___8_5 fd_X2_111 rfl dX2_meet_143 ?_
          refine lv_icmp_ne (tgt := 157) hx hb dX2_meet_146 (by decide) (fun c_146 => ?_) (fun c_146 => ?_)
          · skip
            have c_146 := (not_congr (nI_eq (by omega) (by omega))).mp c_146
            have hG : ¬ gB w t gk = true := by rw [gB_c c_146]; decide
            refine lv_aload_n hx hb dX2_meet_157 rfl (lv_at hl 2 rfl) ?_
            refine lv_dup hx hb dX2_meet_158 rfl ?_
            refine mg S hK hP (by omega) hb_5 fd_X2_70 rfl dX2_meet_159 ?_
            refine lv_iconst (v := nI (1)) hx hb dX2_meet_162 (by decide) ?_
            refine lv_iadd hx hb dX2_meet_163 ?_
            refine tpi (nI_add (qk Q) 1) ?_
            refine mp S hK hP hI hS (by omega) hb_5 fd_X2_70 rfl rfl (Nat.le_of_ble_eq_true rfl) dX2_meet_164 (fun g_10 H locs eg_10 hP hS => ?_)
            have hb_10 : g_10 b = .inr (2, [.ref (ad (b + 1)), .ref (ad (b + 2)), .ref (ad (b + 3)), .ref (ad (b + 4)), .ref (ad (b + 5)), .ref (ad (b + 6)), .ref (ad (b + 7)), .ref (ad (b + 8)), .ref (ad (b + 9)), .long gk, .int sd, .int (nI (qk Q + 1)), .int go, .int an9]) := by rw [eg_10, va_up_self]; exact rfl
            have hb___1_10 : g_10 (b + 1) = .inl (cy 2, 1500, .inr (.inl (vp_updL SE (qk Q) (lN (sea (wd w) (wn w)))))) := ((congrFun eg_10 _).trans (va_up_ne _ _ (by omega))).trans hb___1_5
            have hb___2_10 : g_10 (b + 2) = .inl (cy 2, 1500, .inr (.inl (vp_updL OV (qk Q) (lN (wo w))))) := ((congrFun eg_10 _).trans (va_up_ne _ _ (by omega))).trans hb___2_5
            have hb___3_10 : g_10 (b + 3) = .inl (cy 2, 1500, .inr (.inl (vp_updL KY (qk Q) (kyW w)))) := ((congrFun eg_10 _).trans (va_up_ne _ _ (by omega))).trans hb___3_5
            have hb___4_10 : g_10 (b + 4) = .inl (cy 1, 1500, .inl (upd PA (qk Q) pr)) := ((congrFun eg_10 _).trans (va_up_ne _ _ (by omega))).trans hb___4_5
            have hb___5_10 : g_10 (b + 5) = .inl (cy 1, 1500, .inl (upd AC (qk Q) (nI (a9)))) := ((congrFun eg_10 _).trans (va_up_ne _ _ (by omega))).trans hb___5_5
            have hb___6_10 : g_10 (b + 6) = .inl (cy 1, 4096, .inl (fun x9 => nI (SL x9))) := ((congrFun eg_10 _).trans (va_up_ne _ _ (by omega))).trans hb___6_5
            have hb___8_10 : g_10 (b + 8) = .inr (8, [.int (nI (wn t)), .long (lN (sea (wd t) (wn t))), .int (nI (wf t)), .int (nI (wh t)), .long (lN (wo t))]) := ((congrFun eg_10 _).trans (va_up_ne _ _ (by omega))).trans hb___8_5
            have hb___9_10 : g_10 (b + 9) = .inr (8, [.int (nI (wn w)), .long (lN (sea (wd w) (wn w))), .int (nI (wf w)), .int (nI (wh w)), .long (lN (wo w))]) := ((congrFun eg_10 _).trans (va_up_ne _ _ (by omega))).trans hb___9_5
            have hfr_10 : ∀ j : Nat, j ≠ (b + 1) → j ≠ (b + 2) → j ≠ (b + 3) → j ≠ (b + 4) → j ≠ (b + 5) → j ≠ b → g_10 j = g j := fun j n0 n1 n2 n3 n4 n5 => ((congrFun eg_10 _).trans (va_up_ne _ _ n5)).trans (hfr_5 j n0 n1 n2 n3 n4)
            refine lv_aload_n hx hb dX2_meet_167 rfl (lv_at hl 2 rfl) ?_
            refine mg S hK hP (by omega) hb_10 fd_X2_28 rfl dX2_meet_168 ?_
            refine lv_iload hx hb dX2_meet_171 (lv_at hl 0 rfl) ?_
            refine lv_aload_n hx hb dX2_meet_173 rfl (lv_at hl 2 rfl) ?_
            refine mg S hK hP (by omega) hb_10 fd_X2_70 rfl dX2_meet_174 ?_
            refine mias S hK hP hI hS (by omega) hb___6_10 (vp_in_nI (by omega) (by omega)) dX2_meet_177 (fun g_11 H locs eg_11 hP hS => ?_)
            have hb___6_11 : g_11 (b + 6) = .inl (cy 1, 4096, .inl (fun x9 => nI ((va_up SL s9 (qk Q + 1)) x9))) := by rw [eg_11, va_up_self]; exact (arrN_up (by omega))
            have hb_11 : g_11 b = .inr (2, [.ref (ad (b + 1)), .ref (ad (b + 2)), .ref (ad (b + 3)), .ref (ad (b + 4)), .ref (ad (b + 5)), .ref (ad (b + 6)), .ref (ad (b + 7)), .ref (ad (b + 8)), .ref (ad (b + 9)), .long gk, .int sd, .int (nI (qk Q + 1)), .int go, .int an9]) := ((congrFun eg_11 _).trans (va_up_ne _ _ (by omega))).trans hb_10
            have hb___1_11 : g_11 (b + 1) = .inl (cy 2, 1500, .inr (.inl (vp_updL SE (qk Q) (lN (sea (wd w) (wn w)))))) := ((congrFun eg_11 _).trans (va_up_ne _ _ (by omega))).trans hb___1_10
            have hb___2_11 : g_11 (b + 2) = .inl (cy 2, 1500, .inr (.inl (vp_updL OV (qk Q) (lN (wo w))))) := ((congrFun eg_11 _).trans (va_up_ne _ _ (by omega))).trans hb___2_10
            have hb___3_11 : g_11 (b + 3) = .inl (cy 2, 1500, .inr (.inl (vp_updL KY (qk Q) (kyW w)))) := ((congrFun eg_11 _).trans (va_up_ne _ _ (by omega))).trans hb___3_10
            have hb___4_11 : g_11 (b + 4) = .inl (cy 1, 1500, .inl (upd PA (qk Q) pr)) := ((congrFun eg_11 _).trans (va_up_ne _ _ (by omega))).trans hb___4_10
            have hb___5_11 : g_11 (b + 5) = .inl (cy 1, 1500, .inl (upd AC (qk Q) (nI (a9)))) := ((congrFun eg_11 _).trans (va_up_ne _ _ (by omega))).trans hb___5_10
            have hb___8_11 : g_11 (b + 8) = .inr (8, [.int (nI (wn t)), .long (lN (sea (wd t) (wn t))), .int (nI (wf t)), .int (nI (wh t)), .long (lN (wo t))]) := ((congrFun eg_11 _).trans (va_up_ne _ _ (by omega))).trans hb___8_10
            have hb___9_11 : g_11 (b + 9) = .inr (8, [.int (nI (wn w)), .long (lN (sea (wd w) (wn w))), .int (nI (wf w)), .int (nI (wh w)), .long (lN (wo w))]) := ((congrFun eg_11 _).trans (va_up_ne _ _ (by omega))).trans hb___9_10
            have hfr_11 : ∀ j : Nat, j ≠ (b + 1) → j ≠ (b + 2) → j ≠ (b + 3) → j ≠ (b + 4) → j ≠ (b + 5) → j ≠ b → j ≠ (b + 6) → g_11 j = g j := fun j n0 n1 n2 n3 n4 n5 n6 => ((congrFun eg_11 _).trans (va_up_ne _ _ n6)).trans (hfr_10 j n0 n1 n2 n3 n4 n5)
            exact rMv S hr hlk hP hS ⟨vp_updL SE (qk Q) (lN (sea (wd w) (wn w))), vp_updL OV (qk Q) (lN (wo w)), vp_updL KY (qk Q) (kyW w), upd PA (qk Q) pr, upd AC (qk Q) (nI a9), va_up SL s9 (qk Q + 1), if gB w t gk = true then nI (qk Q) else go, (mt_rel hrel hw hwn hwf hwh hp9q (by omega) hpr hs9e c_29 (by omega)), (by rw [mt_k hQ (by omega)]; first | (rw [if_pos hG]; exact hb_11) | (rw [if_neg hG]; exact hb_11)), hb___1_11, hb___2_11, hb___3_11, hb___4_11, hb___5_11, hb___6_11, (fun j n0 n1 n2 n3 n4 n5 n6 => hfr_11 j (by omega) (by omega) (by omega) (by omega) (by omega) (by omega) (by omega))⟩ dX2_meet_178
          · skip
            have c_146 := (nI_eq (by omega) (by omega)).mp c_146
            have hG : gB w t gk = true := gB_t c_111 c_129 c_146
            refine lv_aload_n hx hb dX2_meet_149 rfl (lv_at hl 2 rfl) ?_
            refine lv_aload_n hx hb dX2_meet_150 rfl (lv_at hl 2 rfl) ?_
            refine mg S hK hP (by omega) hb_5 fd_X2_70 rfl dX2_meet_151 ?_
            refine mp S hK hP hI hS (by omega) hb_5 fd_X2_74 rfl rfl (Nat.le_of_ble_eq_true rfl) dX2_meet_154 (fun g_12 H locs eg_12 hP hS => ?_)
            have hb_12 : g_12 b = .inr (2, [.ref (ad (b + 1)), .ref (ad (b + 2)), .ref (ad (b + 3)), .ref (ad (b + 4)), .ref (ad (b + 5)), .ref (ad (b + 6)), .ref (ad (b + 7)), .ref (ad (b + 8)), .ref (ad (b + 9)), .long gk, .int sd, .int (nI (qk Q)), .int (nI (qk Q)), .int an9]) := by rw [eg_12, va_up_self]; exact rfl
            have hb___1_12 : g_12 (b + 1) = .inl (cy 2, 1500, .inr (.inl (vp_updL SE (qk Q) (lN (sea (wd w) (wn w)))))) := ((congrFun eg_12 _).trans (va_up_ne _ _ (by omega))).trans hb___1_5
            have hb___2_12 : g_12 (b + 2) = .inl (cy 2, 1500, .inr (.inl (vp_updL OV (qk Q) (lN (wo w))))) := ((congrFun eg_12 _).trans (va_up_ne _ _ (by omega))).trans hb___2_5
            have hb___3_12 : g_12 (b + 3) = .inl (cy 2, 1500, .inr (.inl (vp_updL KY (qk Q) (kyW w)))) := ((congrFun eg_12 _).trans (va_up_ne _ _ (by omega))).trans hb___3_5
            have hb___4_12 : g_12 (b + 4) = .inl (cy 1, 1500, .inl (upd PA (qk Q) pr)) := ((congrFun eg_12 _).trans (va_up_ne _ _ (by omega))).trans hb___4_5
            have hb___5_12 : g_12 (b + 5) = .inl (cy 1, 1500, .inl (upd AC (qk Q) (nI (a9)))) := ((congrFun eg_12 _).trans (va_up_ne _ _ (by omega))).trans hb___5_5
            have hb___6_12 : g_12 (b + 6) = .inl (cy 1, 4096, .inl (fun x9 => nI (SL x9))) := ((congrFun eg_12 _).trans (va_up_ne _ _ (by omega))).trans hb___6_5
            have hb___8_12 : g_12 (b + 8) = .inr (8, [.int (nI (wn t)), .long (lN (sea (wd t) (wn t))), .int (nI (wf t)), .int (nI (wh t)), .long (lN (wo t))]) := ((congrFun eg_12 _).trans (va_up_ne _ _ (by omega))).trans hb___8_5
            have hb___9_12 : g_12 (b + 9) = .inr (8, [.int (nI (wn w)), .long (lN (sea (wd w) (wn w))), .int (nI (wf w)), .int (nI (wh w)), .long (lN (wo w))]) := ((congrFun eg_12 _).trans (va_up_ne _ _ (by omega))).trans hb___9_5
            have hfr_12 : ∀ j : Nat, j ≠ (b + 1) → j ≠ (b + 2) → j ≠ (b + 3) → j ≠ (b + 4) → j ≠ (b + 5) → j ≠ b → g_12 j = g j := fun j n0 n1 n2 n3 n4 n5 => ((congrFun eg_12 _).trans (va_up_ne _ _ n5)).trans (hfr_5 j n0 n1 n2 n3 n4)
            refine lv_aload_n hx hb dX2_meet_157 rfl (lv_at hl 2 rfl) ?_
            refine lv_dup hx hb dX2_meet_158 rfl ?_
            refine mg S hK hP (by omega) hb_12 fd_X2_70 rfl dX2_meet_159 ?_
            refine lv_iconst (v := nI (1)) hx hb dX2_meet_162 (by decide) ?_
            refine lv_iadd hx hb dX2_meet_163 ?_
            refine tpi (nI_add (qk Q) 1) ?_
            refine mp S hK hP hI hS (by omega) hb_12 fd_X2_70 rfl rfl (Nat.le_of_ble_eq_true rfl) dX2_meet_164 (fun g_13 H locs eg_13 hP hS => ?_)
            have hb_13 : g_13 b = .inr (2, [.ref (ad (b + 1)), .ref (ad (b + 2)), .ref (ad (b + 3)), .ref (ad (b + 4)), .ref (ad (b + 5)), .ref (ad (b + 6)), .ref (ad (b + 7)), .ref (ad (b + 8)), .ref (ad (b + 9)), .long gk, .int sd, .int (nI (qk Q + 1)), .int (nI (qk Q)), .int an9]) := by rw [eg_13, va_up_self]; exact rfl
            have hb___1_13 : g_13 (b + 1) = .inl (cy 2, 1500, .inr (.inl (vp_updL SE (qk Q) (lN (sea (wd w) (wn w)))))) := ((congrFun eg_13 _).trans (va_up_ne _ _ (by omega))).trans hb___1_12
            have hb___2_13 : g_13 (b + 2) = .inl (cy 2, 1500, .inr (.inl (vp_updL OV (qk Q) (lN (wo w))))) := ((congrFun eg_13 _).trans (va_up_ne _ _ (by omega))).trans hb___2_12
            have hb___3_13 : g_13 (b + 3) = .inl (cy 2, 1500, .inr (.inl (vp_updL KY (qk Q) (kyW w)))) := ((congrFun eg_13 _).trans (va_up_ne _ _ (by omega))).trans hb___3_12
            have hb___4_13 : g_13 (b + 4) = .inl (cy 1, 1500, .inl (upd PA (qk Q) pr)) := ((congrFun eg_13 _).trans (va_up_ne _ _ (by omega))).trans hb___4_12
            have hb___5_13 : g_13 (b + 5) = .inl (cy 1, 1500, .inl (upd AC (qk Q) (nI (a9)))) := ((congrFun eg_13 _).trans (va_up_ne _ _ (by omega))).trans hb___5_12
            have hb___6_13 : g_13 (b + 6) = .inl (cy 1, 4096, .inl (fun x9 => nI (SL x9))) := ((congrFun eg_13 _).trans (va_up_ne _ _ (by omega))).trans hb___6_12
            have hb___8_13 : g_13 (b + 8) = .inr (8, [.int (nI (wn t)), .long (lN (sea (wd t) (wn t))), .int (nI (wf t)), .int (nI (wh t)), .long (lN (wo t))]) := ((congrFun eg_13 _).trans (va_up_ne _ _ (by omega))).trans hb___8_12
            have hb___9_13 : g_13 (b + 9) = .inr (8, [.int (nI (wn w)), .long (lN (sea (wd w) (wn w))), .int (nI (wf w)), .int (nI (wh w)), .long (lN (wo w))]) := ((congrFun eg_13 _).trans (va_up_ne _ _ (by omega))).trans hb___9_12
            have hfr_13 : ∀ j : Nat, j ≠ (b + 1) → j ≠ (b + 2) → j ≠ (b + 3) → j ≠ (b + 4) → j ≠ (b + 5) → j ≠ b → g_13 j = g j := fun j n0 n1 n2 n3 n4 n5 => ((congrFun eg_13 _).trans (va_up_ne _ _ n5)).trans (hfr_12 j n0 n1 n2 n3 n4 n5)
            refine lv_aload_n hx hb dX2_meet_167 rfl (lv_at hl 2 rfl) ?_
            refine mg S hK hP (by omega) hb_13 fd_X2_28 rfl dX2_meet_168 ?_
            refine lv_iload hx hb dX2_meet_171 (lv_at hl 0 rfl) ?_
            refine lv_aload_n hx hb dX2_meet_173 rfl (lv_at hl 2 rfl) ?_
            refine mg S hK hP (by omega) hb_13 fd_X2_70 rfl dX2_meet_174 ?_
            refine mias S hK hP hI hS (by omega) hb___6_13 (vp_in_nI (by omega) (by omega)) dX2_meet_177 (fun g_14 H locs eg_14 hP hS => ?_)
            have hb___6_14 : g_14 (b + 6) = .inl (cy 1, 4096, .inl (fun x9 => nI ((va_up SL s9 (qk Q + 1)) x9))) := by rw [eg_14, va_up_self]; exact (arrN_up (by omega))
            have hb_14 : g_14 b = .inr (2, [.ref (ad (b + 1)), .ref (ad (b + 2)), .ref (ad (b + 3)), .ref (ad (b + 4)), .ref (ad (b + 5)), .ref (ad (b + 6)), .ref (ad (b + 7)), .ref (ad (b + 8)), .ref (ad (b + 9)), .long gk, .int sd, .int (nI (qk Q + 1)), .int (nI (qk Q)), .int an9]) := ((congrFun eg_14 _).trans (va_up_ne _ _ (by omega))).trans hb_13
            have hb___1_14 : g_14 (b + 1) = .inl (cy 2, 1500, .inr (.inl (vp_updL SE (qk Q) (lN (sea (wd w) (wn w)))))) := ((congrFun eg_14 _).trans (va_up_ne _ _ (by omega))).trans hb___1_13
            have hb___2_14 : g_14 (b + 2) = .inl (cy 2, 1500, .inr (.inl (vp_updL OV (qk Q) (lN (wo w))))) := ((congrFun eg_14 _).trans (va_up_ne _ _ (by omega))).trans hb___2_13
            have hb___3_14 : g_14 (b + 3) = .inl (cy 2, 1500, .inr (.inl (vp_updL KY (qk Q) (kyW w)))) := ((congrFun eg_14 _).trans (va_up_ne _ _ (by omega))).trans hb___3_13
            have hb___4_14 : g_14 (b + 4) = .inl (cy 1, 1500, .inl (upd PA (qk Q) pr)) := ((congrFun eg_14 _).trans (va_up_ne _ _ (by omega))).trans hb___4_13
            have hb___5_14 : g_14 (b + 5) = .inl (cy 1, 1500, .inl (upd AC (qk Q) (nI (a9)))) := ((congrFun eg_14 _).trans (va_up_ne _ _ (by omega))).trans hb___5_13
            have hb___8_14 : g_14 (b + 8) = .inr (8, [.int (nI (wn t)), .long (lN (sea (wd t) (wn t))), .int (nI (wf t)), .int (nI (wh t)), .long (lN (wo t))]) := ((congrFun eg_14 _).trans (va_up_ne _ _ (by omega))).trans hb___8_13
            have hb___9_14 : g_14 (b + 9) = .inr (8, [.int (nI (wn w)), .long (lN (sea (wd w) (wn w))), .int (nI (wf w)), .int (nI (wh w)), .long (lN (wo w))]) := ((congrFun eg_14 _).trans (va_up_ne _ _ (by omega))).trans hb___9_13
            have hfr_14 : ∀ j : Nat, j ≠ (b + 1) → j ≠ (b + 2) → j ≠ (b + 3) → j ≠ (b + 4) → j ≠ (b + 5) → j ≠ b → j ≠ (b + 6) → g_14 j = g j := fun j n0 n1 n2 n3 n4 n5 n6 => ((congrFun eg_14 _).trans (va_up_ne _ _ n6)).trans (hfr_13 j n0 n1 n2 n3 n4 n5)
            exact rMv S hr hlk hP hS ⟨vp_updL SE (qk Q) (lN (sea (wd w) (wn w))), vp_updL OV (qk Q) (lN (wo w)), vp_updL KY (qk Q) (kyW w), upd PA (qk Q) pr, upd AC (qk Q) (nI a9), va_up SL s9 (qk Q + 1), if gB w t gk = true then nI (qk Q) else go, (mt_rel hrel hw hwn hwf hwh hp9q (by omega) hpr hs9e c_29 (by omega)), (by rw [mt_k hQ (by omega)]; first | (rw [if_pos hG]; exact hb_14) | (rw [if_neg hG]; exact hb_14)), hb___1_14, hb___2_14, hb___3_14, hb___4_14, hb___5_14, hb___6_14, (fun j n0 n1 n2 n3 n4 n5 n6 => hfr_14 j (by omega) (by omega) (by omega) (by omega) (by omega) (by omega) (by omega))⟩ dX2_meet_178
    · skip
      have c_39 := (not_congr (nI_ltI (by omega) (by omega))).mp c_39
      have hQ : isMet Q w = true ∨ 1500 ≤ qk Q := Or.inr (by omega)
      exact rMv S hr hlk hP hS ⟨SE, OV, KY, PA, AC, SL, go, (by rw [mt_no hQ]; exact hrel), (by first | exact hg | (rw [mt_no hQ]; exact hg)), (by first | exact he9 | (rw [mt_no hQ]; exact he9)), (by first | exact ho9 | (rw [mt_no hQ]; exact ho9)), (by first | exact hk9 | (rw [mt_no hQ]; exact hk9)), (by first | exact hp9 | (rw [mt_no hQ]; exact hp9)), (by first | exact ha9 | (rw [mt_no hQ]; exact ha9)), (by first | exact hs9 | (rw [mt_no hQ]; exact hs9)), (fun j n0 n1 n2 n3 n4 n5 n6 => hfr j )⟩ dX2_meet_42

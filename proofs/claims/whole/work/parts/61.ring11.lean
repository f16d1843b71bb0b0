set_option maxHeartbeats 4000000 in
set_option maxRecDepth 100000 in
theorem c_X9_wayAt (l : Launch) (D : va_G) (cy : Nat → ClassId) (ad : Nat → Nat) (N : Nat) (g : Nat → va_E) (hinj : ∀ i j : Nat, i < N → j < N → ad i = ad j → i = j) (hN : 114 ≤ N) (qc : Nat) (fc : Nat) (lf : Int32) (lt : Int32) (vc : Nat) (hX : g 0 = .inr (9, [.ref (ad 1), .ref (ad 17), .ref (ad 33), .ref (ad 34), .int (nI (qc)), .ref (ad 35), .ref (ad 45), .ref (ad 47), .ref (ad 52), .int (nI (fc)), .int lf, .int lt, .ref (ad 53), .int (nI (vc)), .ref (ad 54), .ref (ad 75)])) (nx0 : Nat) (un : Nat) (rf : Int32) (hg : g 1 = .inr (1, [.ref (ad (1 + 1)), .ref (ad (1 + 2)), .int (nI (nx0)), .int (nI (un)), .int rf])) (w : WT) (hgn : g (1 + 1) = .inr (8, [.int (nI (wn w)), .long (lN (sea (wd w) (wn w))), .int (nI (wf w)), .int (nI (wh w)), .long (lN (wo w))])) (fa : Nat → Option Nat) (hga : g (1 + 2) = .inl (cy 6, 13, .inr (.inr (.inr (.inr fa))))) (hfa : ∀ j, j < 13 → fa j = some (ad (1 + 3 + j))) (Pw : Nat → WT) (hfam : (∀ j : Nat, j < 13 → g (1 + 3 + j) = .inr (8, [.int (nI (wn (Pw j))), .long (lN (sea (wd (Pw j)) (wn (Pw j)))), .int (nI (wf (Pw j))), .int (nI (wh (Pw j))), .long (lN (wo (Pw j)))]))) (hnx : nx0 < 13) (hun : un ≤ 12) (hw : WOK w) (hPw : ∀ j, j < 13 → WOK (Pw j)) (pa : Nat → Option Nat) (hpa : g 34 = .inl (cy 6, 6, .inr (.inr (.inr (.inr pa))))) (hqc : qc ≤ 6) (hpj : ∀ j, j < 6 → pa j = some (ad (76 + j))) (Po : Nat → WT) (hPo : (∀ j : Nat, j < 6 → g (76 + j) = .inr (8, [.int (nI (wn (Po j))), .long (lN (sea (wd (Po j)) (wn (Po j)))), .int (nI (wf (Po j))), .int (nI (wh (Po j))), .long (lN (wo (Po j)))]))) (hPok : ∀ j, j < 6 → WOK (Po j)) (gk : Int64) (sd : Int32) (mc : Nat) (go : Int32) (an9 : Int32) (hgs : g 35 = .inr (2, [.ref (ad (35 + 1)), .ref (ad (35 + 2)), .ref (ad (35 + 3)), .ref (ad (35 + 4)), .ref (ad (35 + 5)), .ref (ad (35 + 6)), .ref (ad (35 + 7)), .ref (ad (35 + 8)), .ref (ad (35 + 9)), .long gk, .int sd, .int (nI (mc)), .int go, .int an9])) (SE : Nat → Int64) (he9 : g (35 + 1) = .inl (cy 2, 1500, .inr (.inl SE))) (OV : Nat → Int64) (ho9 : g (35 + 2) = .inl (cy 2, 1500, .inr (.inl OV))) (KY : Nat → Int64) (hk9 : g (35 + 3) = .inl (cy 2, 1500, .inr (.inl KY))) (PA : Nat → Int32) (hp9 : g (35 + 4) = .inl (cy 1, 1500, .inl PA)) (AC : Nat → Int32) (ha9 : g (35 + 5) = .inl (cy 1, 1500, .inl AC)) (SL : Nat → Nat) (hs9 : g (35 + 6) = .inl (cy 1, 4096, .inl (fun x9 => nI (SL x9)))) (us : WT) (hu9 : g (35 + 7) = .inr (8, [.int (nI (wn us)), .long (lN (sea (wd us) (wn us))), .int (nI (wf us)), .int (nI (wh us)), .long (lN (wo us))])) (hous : WOK us) (ts : WT) (ht9 : g (35 + 8) = .inr (8, [.int (nI (wn ts)), .long (lN (sea (wd ts) (wn ts))), .int (nI (wf ts)), .int (nI (wh ts)), .long (lN (wo ts))])) (hots : WOK ts) (ws : WT) (hws9 : g (35 + 9) = .inr (8, [.int (nI (wn ws)), .long (lN (sea (wd ws) (wn ws))), .int (nI (wf ws)), .int (nI (wh ws)), .long (lN (wo ws))])) (hws : WOK ws) (hsv : SINV SE OV KY PA AC SL go an9 sd mc gk us ts) (x0 : Int32) (z0 : Int32) : Met l yX9_wayAt (WS yX9_wayAt cX9_wayAt 3 (some .int)) (rmF 6 135) (PP [.ref (ad 0), .int x0, .int z0] D cy ad N g) (QI (fun r g1 => ∃ (u2 : WT), ∃ (t2 : WT), ∃ (w2 : WT), ∃ (SE2 : Nat → Int64), ∃ (OV2 : Nat → Int64), ∃ (KY2 : Nat → Int64), ∃ (PA2 : Nat → Int32), ∃ (AC2 : Nat → Int32), ∃ (SL2 : Nat → Nat), ∃ (go2 : Int32), ∃ (gk2 : Int64), ∃ (sd2 : Int32), ∃ (mc2 : Nat), ∃ (an2 : Int32), (r = if (isI x0 qc ∧ ¬ z0 < 0) then wyA (srF u2 t2) z0 else -1) ∧ (WOK u2) ∧ (WOK t2) ∧ (WOK w2) ∧ (SINV SE2 OV2 KY2 PA2 AC2 SL2 go2 an2 sd2 mc2 gk2 u2 t2) ∧ ((isI x0 qc ∧ ¬ z0 < 0) → sd2 = 1 ∧ weq u2 w ∧ weq t2 (Po x0.toNatClampNeg)) ∧ g1 35 = .inr (2, [.ref (ad (35 + 1)), .ref (ad (35 + 2)), .ref (ad (35 + 3)), .ref (ad (35 + 4)), .ref (ad (35 + 5)), .ref (ad (35 + 6)), .ref (ad (35 + 7)), .ref (ad (35 + 8)), .ref (ad (35 + 9)), .long gk2, .int sd2, .int (nI (mc2)), .int go2, .int an2]) ∧ g1 (35 + 1) = .inl (cy 2, 1500, .inr (.inl SE2)) ∧ g1 (35 + 2) = .inl (cy 2, 1500, .inr (.inl OV2)) ∧ g1 (35 + 3) = .inl (cy 2, 1500, .inr (.inl KY2)) ∧ g1 (35 + 4) = .inl (cy 1, 1500, .inl PA2) ∧ g1 (35 + 5) = .inl (cy 1, 1500, .inl AC2) ∧ g1 (35 + 6) = .inl (cy 1, 4096, .inl (fun x9 => nI (SL2 x9))) ∧ g1 (35 + 7) = .inr (8, [.int (nI (wn u2)), .long (lN (sea (wd u2) (wn u2))), .int (nI (wf u2)), .int (nI (wh u2)), .long (lN (wo u2))]) ∧ g1 (35 + 8) = .inr (8, [.int (nI (wn t2)), .long (lN (sea (wd t2) (wn t2))), .int (nI (wf t2)), .int (nI (wh t2)), .long (lN (wo t2))]) ∧ g1 (35 + 9) = .inr (8, [.int (nI (wn w2)), .long (lN (sea (wd w2) (wn w2))), .int (nI (wf w2)), .int (nI (wh w2)), .long (lN (wo w2))]) ∧ (∀ j, j ≠ 35 → j ≠ (35 + 1) → j ≠ (35 + 2) → j ≠ (35 + 3) → j ≠ (35 + 4) → j ≠ (35 + 5) → j ≠ (35 + 6) → j ≠ (35 + 7) → j ≠ (35 + 8) → j ≠ (35 + 9) → g1 j = g j)) D ad N) 0 0 (AA ad N) := by
  refine mentry (by decide) (Nat.le_of_ble_eq_true rfl) (fun p e s m below meth c ls S hr hlk hnm hP hK hl => ?_)
  have S : CallFix p m c cX9_wayAt 3 s _ wsL_law RX9 := S
  have hx := S.1
  have hb := S.2.1
  have hl : lv_has ls 3 [(0, .ref (ad 0)), (1, .int x0), (2, .int z0)] := hl
  have hI : MD (AA ad N) ad N := MD.in hinj
  have hS : va_S (AA ad N) s.heap s.heap [] := va_S.rf
  have hfr : ∀ j : Nat, g j = g j := fun _ => rfl
  refine lv_aload_n hx hb dX9_wayAt_0 rfl (lv_at hl 0 rfl) ?_
  refine lv_iload_n hx hb dX9_wayAt_1 rfl (lv_at hl 1 rfl) ?_
  refine kVi (As := [.int x0]) (rest := []) S hK hP (c_X9_isPose l D cy ad N g (by omega) qc fc lf lt vc hX pa hpa hqc x0) cv_X9_231 (by omega) hX ⟨_, _, rfl⟩ ⟨rfl, rfl⟩ rfl hl.1 rfl (Nat.le_of_ble_eq_true rfl) ⟨Nat.zero_le _, Nat.zero_le _⟩ dX9_wayAt_2 (fun r_2 q_2 => ?_)
  subst q_2
  refine lv_if_eq (tgt := 12) hx hb dX9_wayAt_5 (by decide) (fun c_5 => ?_) (fun c_5 => ?_)
  · skip
    have c_5 := bz_eq.mp c_5
    have hJ : ¬ (isI x0 qc ∧ ¬ z0 < 0) := fun q => c_5 q.1
    refine lv_iconst (v := (-1)) hx hb dX9_wayAt_12 (by decide) ?_
    exact rMi S hr hlk hP hS ⟨us, ts, ws, SE, OV, KY, PA, AC, SL, go, gk, sd, mc, an9, (if_neg hJ).symm, hous, hots, hws, hsv, (fun q => absurd q hJ), hgs, he9, ho9, hk9, hp9, ha9, hs9, hu9, ht9, hws9, (fun j n0 n1 n2 n3 n4 n5 n6 n7 n8 n9 => hfr j )⟩ dX9_wayAt_13
  · skip
    have c_5 := bz_ne.mp c_5
    have hJ := c_5
    obtain ⟨i, hib, rfl⟩ := isI_nat (by omega) c_5
    have hib9 : i < 2 ^ 31 := by omega
    have hJ1 := hJ
    refine lv_iload_n hx hb dX9_wayAt_8 rfl (lv_at hl 2 rfl) ?_
    refine lv_if_ge (tgt := 14) hx hb dX9_wayAt_9 (by decide) (fun c_9 => ?_) (fun c_9 => ?_)
    · skip
      obtain ⟨zj, hzjb, rfl⟩ := nI_of (Int32.not_lt.mpr c_9)
      have hJ : (isI (nI i) qc ∧ ¬ nI zj < 0) := ⟨hJ1, fun q => ((z_lt hzjb).mp q).elim⟩
      refine lv_aload_n hx hb dX9_wayAt_14 rfl (lv_at hl 0 rfl) ?_
      refine mg S hK hP (by omega) hX fd_X9_33 rfl dX9_wayAt_15 ?_
      refine lv_aload_n hx hb dX9_wayAt_18 rfl (lv_at hl 0 rfl) ?_
      refine mg S hK hP (by omega) hX fd_X9_10 rfl dX9_wayAt_19 ?_
      refine mg S hK hP (by omega) hg fd_X9_79 rfl dX9_wayAt_22 ?_
      refine lv_aload_n hx hb dX9_wayAt_25 rfl (lv_at hl 0 rfl) ?_
      refine mg S hK hP (by omega) hX fd_X9_26 rfl dX9_wayAt_26 ?_
      refine lv_iload_n hx hb dX9_wayAt_29 rfl (lv_at hl 1 rfl) ?_
      have hq9_0 : i < 6 := by omega
      have hfc_1 : g (76 + i) = .inr (8, [.int (nI (wn (Po i))), .long (lN (sea (wd (Po i)) (wn (Po i)))), .int (nI (wf (Po i))), .int (nI (wh (Po i))), .long (lN (wo (Po i)))]) := hPo i hq9_0
      refine mial7 S hK hP (by omega) hpa rfl (vp_in_nI (by omega) (by omega)) (a := ad (76 + i)) ((congrArg pa (nI_clamp (by omega))).trans (hpj _ hq9_0)) dX9_wayAt_30 ?_
      refine kMv (As := [.ref (ad (1 + 1)), .ref (ad (76 + i))]) (rest := []) S hK hP hS (fun _ h => h) (c_X2_find l D cy ad N g hinj 35 (by omega) gk sd mc go an9 hgs SE he9 OV ho9 KY hk9 PA hp9 AC ha9 SL hs9 us hu9 hous ts ht9 hots ws hws9 hws hsv (1 + 1) (by omega) w hgn hw (by omega) (76 + i) (by omega) (Po i) hfc_1 (hPok i (by omega)) (by omega)) cv_X9_237 (by omega) hgs ⟨_, _, rfl⟩ ⟨rfl, rfl⟩ rfl hl.1 rfl (Nat.le_of_ble_eq_true rfl) ⟨Nat.zero_le _, Nat.zero_le _⟩ dX9_wayAt_31 (fun g_2 H locs q_2 hP hS => ?_)
      obtain ⟨u2_2, t2_2, w2_2, SE2_2, OV2_2, KY2_2, PA2_2, AC2_2, SL2_2, go2_2, hou2_2, hot2_2, how2_2, hweu_2, hwet_2, hrel2_2, h35_2, h35___1_2, h35___2_2, h35___3_2, h35___4_2, h35___5_2, h35___6_2, h35___7_2, h35___8_2, h35___9_2, f_2⟩ := q_2
      have h0_2 : g_2 0 = .inr (9, [.ref (ad 1), .ref (ad 17), .ref (ad 33), .ref (ad 34), .int (nI (qc)), .ref (ad 35), .ref (ad 45), .ref (ad 47), .ref (ad 52), .int (nI (fc)), .int lf, .int lt, .ref (ad 53), .int (nI (vc)), .ref (ad 54), .ref (ad 75)]) := (f_2 0 (by omega) (by omega) (by omega) (by omega) (by omega) (by omega) (by omega) (by omega) (by omega) (by omega)).trans hX
      have h34_2 : g_2 34 = .inl (cy 6, 6, .inr (.inr (.inr (.inr pa)))) := (f_2 34 (by omega) (by omega) (by omega) (by omega) (by omega) (by omega) (by omega) (by omega) (by omega) (by omega)).trans hpa
      have h1_2 : g_2 1 = .inr (1, [.ref (ad (1 + 1)), .ref (ad (1 + 2)), .int (nI (nx0)), .int (nI (un)), .int rf]) := (f_2 1 (by omega) (by omega) (by omega) (by omega) (by omega) (by omega) (by omega) (by omega) (by omega) (by omega)).trans hg
      have h1___1_2 : g_2 (1 + 1) = .inr (8, [.int (nI (wn w)), .long (lN (sea (wd w) (wn w))), .int (nI (wf w)), .int (nI (wh w)), .long (lN (wo w))]) := (f_2 (1 + 1) (by omega) (by omega) (by omega) (by omega) (by omega) (by omega) (by omega) (by omega) (by omega) (by omega)).trans hgn
      have h1___2_2 : g_2 (1 + 2) = .inl (cy 6, 13, .inr (.inr (.inr (.inr fa)))) := (f_2 (1 + 2) (by omega) (by omega) (by omega) (by omega) (by omega) (by omega) (by omega) (by omega) (by omega) (by omega)).trans hga
      have h76___i_2 : g_2 (76 + i) = .inr (8, [.int (nI (wn (Po i))), .long (lN (sea (wd (Po i)) (wn (Po i)))), .int (nI (wf (Po i))), .int (nI (wh (Po i))), .long (lN (wo (Po i)))]) := (f_2 (76 + i) (by omega) (by omega) (by omega) (by omega) (by omega) (by omega) (by omega) (by omega) (by omega) (by omega)).trans hfc_1
      have hfam_P_2 : (∀ j : Nat, j < 13 → g_2 (1 + 3 + j) = .inr (8, [.int (nI (wn (Pw j))), .long (lN (sea (wd (Pw j)) (wn (Pw j)))), .int (nI (wf (Pw j))), .int (nI (wh (Pw j))), .long (lN (wo (Pw j)))])) := fun j hj => (f_2 (1 + 3 + j) (by omega) (by omega) (by omega) (by omega) (by omega) (by omega) (by omega) (by omega) (by omega) (by omega)).trans (hfam j hj)
      have hfam_Q_2 : (∀ j : Nat, j < 6 → g_2 (76 + j) = .inr (8, [.int (nI (wn (Po j))), .long (lN (sea (wd (Po j)) (wn (Po j)))), .int (nI (wf (Po j))), .int (nI (wh (Po j))), .long (lN (wo (Po j)))])) := fun j hj => (f_2 (76 + j) (by omega) (by omega) (by omega) (by omega) (by omega) (by omega) (by omega) (by omega) (by omega) (by omega)).trans (hPo j hj)
      have hfr_2 : ∀ j : Nat, j ≠ 35 → j ≠ (35 + 1) → j ≠ (35 + 2) → j ≠ (35 + 3) → j ≠ (35 + 4) → j ≠ (35 + 5) → j ≠ (35 + 6) → j ≠ (35 + 7) → j ≠ (35 + 8) → j ≠ (35 + 9) → g_2 j = g j := fun j n0 n1 n2 n3 n4 n5 n6 n7 n8 n9 => (f_2 j n0 n1 n2 n3 n4 n5 n6 n7 n8 n9).trans (hfr j )
      refine lv_aload_n hx hb dX9_wayAt_34 rfl (lv_at hl 0 rfl) ?_
      refine mg S hK hP (by omega) h0_2 fd_X9_33 rfl dX9_wayAt_35 ?_
      refine mg S hK hP (by omega) h35_2 fd_X9_241 rfl dX9_wayAt_38 ?_
      refine lv_bipush (v := (-6)) hx hb dX9_wayAt_41 (by decide) ?_
      refine lv_icmp_ne (tgt := 49) hx hb dX9_wayAt_43 (by decide) (fun c_43 => ?_) (fun c_43 => ?_)
      · skip
        refine lv_iload_n hx hb dX9_wayAt_49 rfl (lv_at hl 2 rfl) ?_
        refine lv_aload_n hx hb dX9_wayAt_50 rfl (lv_at hl 0 rfl) ?_
        refine mg S hK hP (by omega) h0_2 fd_X9_33 rfl dX9_wayAt_51 ?_
        refine mg S hK hP (by omega) h35_2 fd_X9_241 rfl dX9_wayAt_54 ?_
        refine lv_icmp_ge (tgt := 71) hx hb dX9_wayAt_57 (by decide) (fun c_57 => ?_) (fun c_57 => ?_)
        · skip
          refine lv_bipush (v := (-4)) hx hb dX9_wayAt_71 (by decide) ?_
          exact rMi S hr hlk hP hS ⟨u2_2, t2_2, w2_2, SE2_2, OV2_2, KY2_2, PA2_2, AC2_2, SL2_2, go2_2, kyW t2_2, 1, qk (srF u2_2 t2_2), ansF (srF u2_2 t2_2), (by rw [if_pos hJ]; unfold wyA; rw [if_neg c_43, if_neg (Int32.not_lt.mpr c_57)]), hou2_2, hot2_2, how2_2, ⟨hrel2_2.1, Or.inr ⟨rfl, hrel2_2, rfl, rfl, rfl⟩⟩, (fun _ => ⟨rfl, hweu_2, (by rw [nI_clamp hib9]; exact hwet_2)⟩), h35_2, h35___1_2, h35___2_2, h35___3_2, h35___4_2, h35___5_2, h35___6_2, h35___7_2, h35___8_2, h35___9_2, hfr_2⟩ dX9_wayAt_73
        · skip
          have hlt : nI zj < ansF (srF u2_2 t2_2) := Int32.not_le.mp c_57
          have hgl := ansF_lt hzjb c_43 hlt
          have hqk := hrel2_2.1
          have hqg := hrel2_2.2.2.2.2
          have hwl := wlen_le (srel_p hrel2_2) (m := qg (srF u2_2 t2_2) - 1) (by omega)
          have hzl : zj < wlen (qp (srF u2_2 t2_2)) (qg (srF u2_2 t2_2) - 1) := by have h9 := hlt; rw [ansF_y hgl] at h9; exact (nI_ltI hzjb (by omega)).mp h9
          refine lv_aload_n hx hb dX9_wayAt_60 rfl (lv_at hl 0 rfl) ?_
          refine mg S hK hP (by omega) h0_2 fd_X9_33 rfl dX9_wayAt_61 ?_
          have hsq_3 : g_2 35 = .inr (2, [.ref (ad (35 + 1)), .ref (ad (35 + 2)), .ref (ad (35 + 3)), .ref (ad (35 + 4)), .ref (ad (35 + 5)), .ref (ad (35 + 6)), .ref (ad (35 + 7)), .ref (ad (35 + 8)), .ref (ad (35 + 9)), .long (kyW t2_2), .int 1, .int (nI (qk (srF u2_2 t2_2))), .int go2_2, .int (nI (wlen (qp (srF u2_2 t2_2)) (qg (srF u2_2 t2_2) - 1)))]) := h35_2.trans (by rw [ansF_y hgl])
          refine lv_iload_n hx hb dX9_wayAt_64 rfl (lv_at hl 2 rfl) ?_
          refine kVi (As := [.int (nI (zj))]) (rest := []) S hK hP (c_X2_actOfWay l D cy ad N g_2 35 (by omega) (kyW t2_2) 1 go2_2 (wlen (qp (srF u2_2 t2_2)) (qg (srF u2_2 t2_2) - 1)) (srF u2_2 t2_2) (wn u2_2) (wf u2_2) (wh u2_2) hsq_3 SE2_2 OV2_2 KY2_2 PA2_2 h35___4_2 AC2_2 h35___5_2 SL2_2 hrel2_2 hgl rfl zj (by omega)) cv_X9_244 (by omega) hsq_3 ⟨_, _, rfl⟩ ⟨rfl, rfl⟩ rfl hl.1 rfl (Nat.le_of_ble_eq_true rfl) ⟨Nat.zero_le _, Nat.zero_le _⟩ dX9_wayAt_65 (fun r_65 q_65 => ?_)
          subst q_65
          refine lv_goto (tgt := 73) hx hb dX9_wayAt_68 (by decide) ?_
          exact rMi S hr hlk hP hS ⟨u2_2, t2_2, w2_2, SE2_2, OV2_2, KY2_2, PA2_2, AC2_2, SL2_2, go2_2, kyW t2_2, 1, qk (srF u2_2 t2_2), ansF (srF u2_2 t2_2), (by rw [if_pos hJ]; unfold wyA; rw [if_neg c_43, if_pos hlt, nI_clamp hzjb]), hou2_2, hot2_2, how2_2, ⟨hrel2_2.1, Or.inr ⟨rfl, hrel2_2, rfl, rfl, rfl⟩⟩, (fun _ => ⟨rfl, hweu_2, (by rw [nI_clamp hib9]; exact hwet_2)⟩), h35_2, h35___1_2, h35___2_2, h35___3_2, h35___4_2, h35___5_2, h35___6_2, h35___7_2, h35___8_2, h35___9_2, hfr_2⟩ dX9_wayAt_73
      · skip
        refine lv_bipush (v := (-6)) hx hb dX9_wayAt_46 (by decide) ?_
        exact rMi S hr hlk hP hS ⟨u2_2, t2_2, w2_2, SE2_2, OV2_2, KY2_2, PA2_2, AC2_2, SL2_2, go2_2, kyW t2_2, 1, qk (srF u2_2 t2_2), ansF (srF u2_2 t2_2), (by rw [if_pos hJ]; unfold wyA; rw [if_pos c_43]), hou2_2, hot2_2, how2_2, ⟨hrel2_2.1, Or.inr ⟨rfl, hrel2_2, rfl, rfl, rfl⟩⟩, (fun _ => ⟨rfl, hweu_2, (by rw [nI_clamp hib9]; exact hwet_2)⟩), h35_2, h35___1_2, h35___2_2, h35___3_2, h35___4_2, h35___5_2, h35___6_2, h35___7_2, h35___8_2, h35___9_2, hfr_2⟩ dX9_wayAt_48
    · skip
      have hJ : ¬ (isI (nI i) qc ∧ ¬ z0 < 0) := fun q => q.2 (Int32.not_le.mp c_9)
      refine lv_iconst (v := (-1)) hx hb dX9_wayAt_12 (by decide) ?_
      exact rMi S hr hlk hP hS ⟨us, ts, ws, SE, OV, KY, PA, AC, SL, go, gk, sd, mc, an9, (if_neg hJ).symm, hous, hots, hws, hsv, (fun q => absurd q hJ), hgs, he9, ho9, hk9, hp9, ha9, hs9, hu9, ht9, hws9, (fun j n0 n1 n2 n3 n4 n5 n6 n7 n8 n9 => hfr j )⟩ dX9_wayAt_13

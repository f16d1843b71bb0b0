set_option maxHeartbeats 4000000 in
set_option maxRecDepth 100000 in
theorem c_X9_way (l : Launch) (D : va_G) (cy : Nat → ClassId) (ad : Nat → Nat) (N : Nat) (g : Nat → va_E) (hinj : ∀ i j : Nat, i < N → j < N → ad i = ad j → i = j) (hN : 114 ≤ N) (qc : Nat) (fc : Nat) (lf : Int32) (lt : Int32) (vc : Nat) (hX : g 0 = .inr (9, [.ref (ad 1), .ref (ad 17), .ref (ad 33), .ref (ad 34), .int (nI (qc)), .ref (ad 35), .ref (ad 45), .ref (ad 47), .ref (ad 52), .int (nI (fc)), .int lf, .int lt, .ref (ad 53), .int (nI (vc)), .ref (ad 54), .ref (ad 75)])) (nx0 : Nat) (un : Nat) (rf : Int32) (hg : g 1 = .inr (1, [.ref (ad (1 + 1)), .ref (ad (1 + 2)), .int (nI (nx0)), .int (nI (un)), .int rf])) (w : WT) (hgn : g (1 + 1) = .inr (8, [.int (nI (wn w)), .long (lN (sea (wd w) (wn w))), .int (nI (wf w)), .int (nI (wh w)), .long (lN (wo w))])) (fa : Nat → Option Nat) (hga : g (1 + 2) = .inl (cy 6, 13, .inr (.inr (.inr (.inr fa))))) (hfa : ∀ j, j < 13 → fa j = some (ad (1 + 3 + j))) (Pw : Nat → WT) (hfam : (∀ j : Nat, j < 13 → g (1 + 3 + j) = .inr (8, [.int (nI (wn (Pw j))), .long (lN (sea (wd (Pw j)) (wn (Pw j)))), .int (nI (wf (Pw j))), .int (nI (wh (Pw j))), .long (lN (wo (Pw j)))]))) (hnx : nx0 < 13) (hun : un ≤ 12) (hw : WOK w) (hPw : ∀ j, j < 13 → WOK (Pw j)) (pa : Nat → Option Nat) (hpa : g 34 = .inl (cy 6, 6, .inr (.inr (.inr (.inr pa))))) (hqc : qc ≤ 6) (hpj : ∀ j, j < 6 → pa j = some (ad (76 + j))) (Po : Nat → WT) (hPo : (∀ j : Nat, j < 6 → g (76 + j) = .inr (8, [.int (nI (wn (Po j))), .long (lN (sea (wd (Po j)) (wn (Po j)))), .int (nI (wf (Po j))), .int (nI (wh (Po j))), .long (lN (wo (Po j)))]))) (hPok : ∀ j, j < 6 → WOK (Po j)) (gk : Int64) (sd : Int32) (mc : Nat) (go : Int32) (an9 : Int32) (hgs : g 35 = .inr (2, [.ref (ad (35 + 1)), .ref (ad (35 + 2)), .ref (ad (35 + 3)), .ref (ad (35 + 4)), .ref (ad (35 + 5)), .ref (ad (35 + 6)), .ref (ad (35 + 7)), .ref (ad (35 + 8)), .ref (ad (35 + 9)), .long gk, .int sd, .int (nI (mc)), .int go, .int an9])) (SE : Nat → Int64) (he9 : g (35 + 1) = .inl (cy 2, 1500, .inr (.inl SE))) (OV : Nat → Int64) (ho9 : g (35 + 2) = .inl (cy 2, 1500, .inr (.inl OV))) (KY : Nat → Int64) (hk9 : g (35 + 3) = .inl (cy 2, 1500, .inr (.inl KY))) (PA : Nat → Int32) (hp9 : g (35 + 4) = .inl (cy 1, 1500, .inl PA)) (AC : Nat → Int32) (ha9 : g (35 + 5) = .inl (cy 1, 1500, .inl AC)) (SL : Nat → Nat) (hs9 : g (35 + 6) = .inl (cy 1, 4096, .inl (fun x9 => nI (SL x9)))) (us : WT) (hu9 : g (35 + 7) = .inr (8, [.int (nI (wn us)), .long (lN (sea (wd us) (wn us))), .int (nI (wf us)), .int (nI (wh us)), .long (lN (wo us))])) (hous : WOK us) (ts : WT) (ht9 : g (35 + 8) = .inr (8, [.int (nI (wn ts)), .long (lN (sea (wd ts) (wn ts))), .int (nI (wf ts)), .int (nI (wh ts)), .long (lN (wo ts))])) (hots : WOK ts) (ws : WT) (hws9 : g (35 + 9) = .inr (8, [.int (nI (wn ws)), .long (lN (sea (wd ws) (wn ws))), .int (nI (wf ws)), .int (nI (wh ws)), .long (lN (wo ws))])) (hws : WOK ws) (hsv : SINV SE OV KY PA AC SL go an9 sd mc gk us ts) (x0 : Int32) : Met l yX9_way (WS yX9_way cX9_way 2 (some .int)) (rmF 6 135) (PP [.ref (ad 0), .int x0] D cy ad N g) (QI (fun r g1 => ∃ (u2 : WT), ∃ (t2 : WT), ∃ (w2 : WT), ∃ (SE2 : Nat → Int64), ∃ (OV2 : Nat → Int64), ∃ (KY2 : Nat → Int64), ∃ (PA2 : Nat → Int32), ∃ (AC2 : Nat → Int32), ∃ (SL2 : Nat → Nat), ∃ (go2 : Int32), ∃ (gk2 : Int64), ∃ (sd2 : Int32), ∃ (mc2 : Nat), ∃ (an2 : Int32), (r = if isI x0 qc then an2 else -1) ∧ (WOK u2) ∧ (WOK t2) ∧ (WOK w2) ∧ (SINV SE2 OV2 KY2 PA2 AC2 SL2 go2 an2 sd2 mc2 gk2 u2 t2) ∧ (isI x0 qc → sd2 = 1 ∧ weq u2 w ∧ weq t2 (Po x0.toNatClampNeg)) ∧ g1 35 = .inr (2, [.ref (ad (35 + 1)), .ref (ad (35 + 2)), .ref (ad (35 + 3)), .ref (ad (35 + 4)), .ref (ad (35 + 5)), .ref (ad (35 + 6)), .ref (ad (35 + 7)), .ref (ad (35 + 8)), .ref (ad (35 + 9)), .long gk2, .int sd2, .int (nI (mc2)), .int go2, .int an2]) ∧ g1 (35 + 1) = .inl (cy 2, 1500, .inr (.inl SE2)) ∧ g1 (35 + 2) = .inl (cy 2, 1500, .inr (.inl OV2)) ∧ g1 (35 + 3) = .inl (cy 2, 1500, .inr (.inl KY2)) ∧ g1 (35 + 4) = .inl (cy 1, 1500, .inl PA2) ∧ g1 (35 + 5) = .inl (cy 1, 1500, .inl AC2) ∧ g1 (35 + 6) = .inl (cy 1, 4096, .inl (fun x9 => nI (SL2 x9))) ∧ g1 (35 + 7) = .inr (8, [.int (nI (wn u2)), .long (lN (sea (wd u2) (wn u2))), .int (nI (wf u2)), .int (nI (wh u2)), .long (lN (wo u2))]) ∧ g1 (35 + 8) = .inr (8, [.int (nI (wn t2)), .long (lN (sea (wd t2) (wn t2))), .int (nI (wf t2)), .int (nI (wh t2)), .long (lN (wo t2))]) ∧ g1 (35 + 9) = .inr (8, [.int (nI (wn w2)), .long (lN (sea (wd w2) (wn w2))), .int (nI (wf w2)), .int (nI (wh w2)), .long (lN (wo w2))]) ∧ (∀ j, j ≠ 35 → j ≠ (35 + 1) → j ≠ (35 + 2) → j ≠ (35 + 3) → j ≠ (35 + 4) → j ≠ (35 + 5) → j ≠ (35 + 6) → j ≠ (35 + 7) → j ≠ (35 + 8) → j ≠ (35 + 9) → g1 j = g j)) D ad N) 0 0 (AA ad N) := by
  refine mentry (by decide) (Nat.le_of_ble_eq_true rfl) (fun p e s m below meth c ls S hr hlk hnm hP hK hl => ?_)
  have S : CallFix p m c cX9_way 2 s _ wsL_law RX9 := S
  have hx := S.1
  have hb := S.2.1
  have hl : lv_has ls 2 [(0, .ref (ad 0)), (1, .int x0)] := hl
  have hI : MD (AA ad N) ad N := MD.in hinj
  have hS : va_S (AA ad N) s.heap s.heap [] := va_S.rf
  have hfr : ∀ j : Nat, g j = g j := fun _ => rfl
  refine lv_aload_n hx hb dX9_way_0 rfl (lv_at hl 0 rfl) ?_
  refine lv_iload_n hx hb dX9_way_1 rfl (lv_at hl 1 rfl) ?_
  refine kVi (As := [.int x0]) (rest := []) S hK hP (c_X9_isPose l D cy ad N g (by omega) qc fc lf lt vc hX pa hpa hqc x0) cv_X9_231 (by omega) hX ⟨_, _, rfl⟩ ⟨rfl, rfl⟩ rfl hl.1 rfl (Nat.le_of_ble_eq_true rfl) ⟨Nat.zero_le _, Nat.zero_le _⟩ dX9_way_2 (fun r_2 q_2 => ?_)
  subst q_2
  refine lv_if_ne (tgt := 10) hx hb dX9_way_5 (by decide) (fun c_5 => ?_) (fun c_5 => ?_)
  · skip
    have c_5 := bz_ne.mp c_5
    have hJ := c_5
    obtain ⟨i, hib, rfl⟩ := isI_nat (by omega) c_5
    have hib9 : i < 2 ^ 31 := by omega
    refine lv_aload_n hx hb dX9_way_10 rfl (lv_at hl 0 rfl) ?_
    refine mg S hK hP (by omega) hX fd_X9_33 rfl dX9_way_11 ?_
    refine lv_aload_n hx hb dX9_way_14 rfl (lv_at hl 0 rfl) ?_
    refine mg S hK hP (by omega) hX fd_X9_10 rfl dX9_way_15 ?_
    refine mg S hK hP (by omega) hg fd_X9_79 rfl dX9_way_18 ?_
    refine lv_aload_n hx hb dX9_way_21 rfl (lv_at hl 0 rfl) ?_
    refine mg S hK hP (by omega) hX fd_X9_26 rfl dX9_way_22 ?_
    refine lv_iload_n hx hb dX9_way_25 rfl (lv_at hl 1 rfl) ?_
    have hq9_0 : i < 6 := by omega
    have hfc_1 : g (76 + i) = .inr (8, [.int (nI (wn (Po i))), .long (lN (sea (wd (Po i)) (wn (Po i)))), .int (nI (wf (Po i))), .int (nI (wh (Po i))), .long (lN (wo (Po i)))]) := hPo i hq9_0
    refine mial7 S hK hP (by omega) hpa rfl (vp_in_nI (by omega) (by omega)) (a := ad (76 + i)) ((congrArg pa (nI_clamp (by omega))).trans (hpj _ hq9_0)) dX9_way_26 ?_
    refine kMv (As := [.ref (ad (1 + 1)), .ref (ad (76 + i))]) (rest := []) S hK hP hS (fun _ h => h) (c_X2_find l D cy ad N g hinj 35 (by omega) gk sd mc go an9 hgs SE he9 OV ho9 KY hk9 PA hp9 AC ha9 SL hs9 us hu9 hous ts ht9 hots ws hws9 hws hsv (1 + 1) (by omega) w hgn hw (by omega) (76 + i) (by omega) (Po i) hfc_1 (hPok i (by omega)) (by omega)) cv_X9_237 (by omega) hgs ⟨_, _, rfl⟩ ⟨rfl, rfl⟩ rfl hl.1 rfl (Nat.le_of_ble_eq_true rfl) ⟨Nat.zero_le _, Nat.zero_le _⟩ dX9_way_27 (fun g_2 H locs q_2 hP hS => ?_)
    obtain ⟨u2_2, t2_2, w2_2, SE2_2, OV2_2, KY2_2, PA2_2, AC2_2, SL2_2, go2_2, hou2_2, hot2_2, how2_2, hweu_2, hwet_2, hrel2_2, h35_2, h35___1_2, h35___2_2, h35___3_2, h35___4_2, h35___5_2, h35___6_2, h35___7_2, h35___8_2, h35___9_2, f_2⟩ := q_2
    have h0_2 : g_2 0 = .inr (9, [.ref (ad 1), .ref (ad 17), .ref (ad 33), .ref (ad 34), .int (nI (qc)), .ref (ad 35), .ref (ad 45), .ref (ad 47), .ref (ad 52), .int (nI (fc)), .int lf, .int lt, .ref (ad 53), .int (nI (vc)), .ref (ad 54), .ref (ad 75)]) := (f_2 0 (by omega) (by omega) (by omega) (by omega) (by omega) (by omega) (by omega) (by omega) (by omega) (by omega)).trans hX
    have h34_2 : g_2 34 = .inl (cy 6, 6, .inr (.inr (.inr (.inr pa)))) := (f_2 34 (by omega) (by omega) (by omega) (by omega) (by omega) (by omega) (by omega) (by omega) (by omega) (by omega)).trans hpa
    have h1_2 : g_2 1 = .inr (1, [.ref (ad (1 + 1)), .ref (ad (1 + 2)), .int (nI (nx0)), .int (nI (un)), .int rf]) := (f_2 1 (by omega) (by omega) (by omega) (by omega) (by omega) (by omega) (by omega) (by omega) (by omega) (by omega)).trans hg
    have h1___1_2 : g_2 (1 + 1) = .inr (8, [.int (nI (wn w)), .long (lN (sea (wd w) (wn w))), .int (nI (wf w)), .int (nI (wh w)), .long (lN (wo w))]) := (f_2 (1 + 1) (by omega) (by omega) (by omega) (by omega) (by omega) (by omega) (by omega) (by omega) (by omega) (by omega)).trans hgn
    have h1___2_2 : g_2 (1 + 2) = .inl (cy 6, 13, .inr (.inr (.inr (.inr fa)))) := (f_2 (1 + 2) (by omega) (by omega) (by omega) (by omega) (by omega) (by omega) (by omega) (by omega) (by omega) (by omega)).trans hga
    have h76___i_2 : g_2 (76 + i) = .inr (8, [.int (nI (wn (Po i))), .long (lN (sea (wd (Po i)) (wn (Po i)))), .int (nI (wf (Po i))), .int (nI (wh (Po i))), .long (lN (wo (Po i)))]) := (f_2 (76 + i) (by omega) (by omega) (by omega) (by omega) (by omega) (by omega) (by omega) (by omega) (by omega) (by omega)).trans hfc_1
    have hfam_P_2 : (∀ j : Nat, j < 13 → g_2 (1 + 3 + j) = .inr (8, [.int (nI (wn (Pw j))), .long (lN (sea (wd (Pw j)) (wn (Pw j)))), .int (nI (wf (Pw j))), .int (nI (wh (Pw j))), .long (lN (wo (Pw j)))])) := fun j hj => (f_2 (1 + 3 + j) (by omega) (by omega) (by omega) (by omega) (by omega) (by omega) (by omega) (by omega) (by omega) (by omega)).trans (hfam j hj)
    have hfam_Q_2 : (∀ j : Nat, j < 6 → g_2 (76 + j) = .inr (8, [.int (nI (wn (Po j))), .long (lN (sea (wd (Po j)) (wn (Po j)))), .int (nI (wf (Po j))), .int (nI (wh (Po j))), .long (lN (wo (Po j)))])) := fun j hj => (f_2 (76 + j) (by omega) (by omega) (by omega) (by omega) (by omega) (by omega) (by omega) (by omega) (by omega) (by omega)).trans (hPo j hj)
    have hfr_2 : ∀ j : Nat, j ≠ 35 → j ≠ (35 + 1) → j ≠ (35 + 2) → j ≠ (35 + 3) → j ≠ (35 + 4) → j ≠ (35 + 5) → j ≠ (35 + 6) → j ≠ (35 + 7) → j ≠ (35 + 8) → j ≠ (35 + 9) → g_2 j = g j := fun j n0 n1 n2 n3 n4 n5 n6 n7 n8 n9 => (f_2 j n0 n1 n2 n3 n4 n5 n6 n7 n8 n9).trans (hfr j )
    refine lv_aload_n hx hb dX9_way_30 rfl (lv_at hl 0 rfl) ?_
    refine mg S hK hP (by omega) h0_2 fd_X9_33 rfl dX9_way_31 ?_
    refine mg S hK hP (by omega) h35_2 fd_X9_241 rfl dX9_way_34 ?_
    exact rMi S hr hlk hP hS ⟨u2_2, t2_2, w2_2, SE2_2, OV2_2, KY2_2, PA2_2, AC2_2, SL2_2, go2_2, kyW t2_2, 1, qk (srF u2_2 t2_2), ansF (srF u2_2 t2_2), (if_pos hJ).symm, hou2_2, hot2_2, how2_2, ⟨hrel2_2.1, Or.inr ⟨rfl, hrel2_2, rfl, rfl, rfl⟩⟩, (fun _ => ⟨rfl, hweu_2, (by rw [nI_clamp hib9]; exact hwet_2)⟩), h35_2, h35___1_2, h35___2_2, h35___3_2, h35___4_2, h35___5_2, h35___6_2, h35___7_2, h35___8_2, h35___9_2, hfr_2⟩ dX9_way_37
  · skip
    have c_5 := bz_eq.mp c_5
    have hJ : ¬ isI x0 qc := c_5
    refine lv_iconst (v := (-1)) hx hb dX9_way_8 (by decide) ?_
    exact rMi S hr hlk hP hS ⟨us, ts, ws, SE, OV, KY, PA, AC, SL, go, gk, sd, mc, an9, (if_neg hJ).symm, hous, hots, hws, hsv, (fun q => absurd q hJ), hgs, he9, ho9, hk9, hp9, ha9, hs9, hu9, ht9, hws9, (fun j n0 n1 n2 n3 n4 n5 n6 n7 n8 n9 => hfr j )⟩ dX9_way_9
set_option maxHeartbeats 4000000 in
set_option maxRecDepth 100000 in
theorem c_X9_met (l : Launch) (D : va_G) (cy : Nat → ClassId) (ad : Nat → Nat) (N : Nat) (g : Nat → va_E) (hinj : ∀ i j : Nat, i < N → j < N → ad i = ad j → i = j) (hN : 114 ≤ N) (qc : Nat) (fc : Nat) (lf : Int32) (lt : Int32) (vc : Nat) (hX : g 0 = .inr (9, [.ref (ad 1), .ref (ad 17), .ref (ad 33), .ref (ad 34), .int (nI (qc)), .ref (ad 35), .ref (ad 45), .ref (ad 47), .ref (ad 52), .int (nI (fc)), .int lf, .int lt, .ref (ad 53), .int (nI (vc)), .ref (ad 54), .ref (ad 75)])) (nx0 : Nat) (un : Nat) (rf : Int32) (hg : g 1 = .inr (1, [.ref (ad (1 + 1)), .ref (ad (1 + 2)), .int (nI (nx0)), .int (nI (un)), .int rf])) (w : WT) (hgn : g (1 + 1) = .inr (8, [.int (nI (wn w)), .long (lN (sea (wd w) (wn w))), .int (nI (wf w)), .int (nI (wh w)), .long (lN (wo w))])) (fa : Nat → Option Nat) (hga : g (1 + 2) = .inl (cy 6, 13, .inr (.inr (.inr (.inr fa))))) (hfa : ∀ j, j < 13 → fa j = some (ad (1 + 3 + j))) (Pw : Nat → WT) (hfam : (∀ j : Nat, j < 13 → g (1 + 3 + j) = .inr (8, [.int (nI (wn (Pw j))), .long (lN (sea (wd (Pw j)) (wn (Pw j)))), .int (nI (wf (Pw j))), .int (nI (wh (Pw j))), .long (lN (wo (Pw j)))]))) (hnx : nx0 < 13) (hun : un ≤ 12) (hw : WOK w) (hPw : ∀ j, j < 13 → WOK (Pw j)) (pa : Nat → Option Nat) (hpa : g 34 = .inl (cy 6, 6, .inr (.inr (.inr (.inr pa))))) (hqc : qc ≤ 6) (hpj : ∀ j, j < 6 → pa j = some (ad (76 + j))) (Po : Nat → WT) (hPo : (∀ j : Nat, j < 6 → g (76 + j) = .inr (8, [.int (nI (wn (Po j))), .long (lN (sea (wd (Po j)) (wn (Po j)))), .int (nI (wf (Po j))), .int (nI (wh (Po j))), .long (lN (wo (Po j)))]))) (hPok : ∀ j, j < 6 → WOK (Po j)) (gk : Int64) (sd : Int32) (mc : Nat) (go : Int32) (an9 : Int32) (hgs : g 35 = .inr (2, [.ref (ad (35 + 1)), .ref (ad (35 + 2)), .ref (ad (35 + 3)), .ref (ad (35 + 4)), .ref (ad (35 + 5)), .ref (ad (35 + 6)), .ref (ad (35 + 7)), .ref (ad (35 + 8)), .ref (ad (35 + 9)), .long gk, .int sd, .int (nI (mc)), .int go, .int an9])) (SE : Nat → Int64) (he9 : g (35 + 1) = .inl (cy 2, 1500, .inr (.inl SE))) (OV : Nat → Int64) (ho9 : g (35 + 2) = .inl (cy 2, 1500, .inr (.inl OV))) (KY : Nat → Int64) (hk9 : g (35 + 3) = .inl (cy 2, 1500, .inr (.inl KY))) (PA : Nat → Int32) (hp9 : g (35 + 4) = .inl (cy 1, 1500, .inl PA)) (AC : Nat → Int32) (ha9 : g (35 + 5) = .inl (cy 1, 1500, .inl AC)) (SL : Nat → Nat) (hs9 : g (35 + 6) = .inl (cy 1, 4096, .inl (fun x9 => nI (SL x9)))) (us : WT) (hu9 : g (35 + 7) = .inr (8, [.int (nI (wn us)), .long (lN (sea (wd us) (wn us))), .int (nI (wf us)), .int (nI (wh us)), .long (lN (wo us))])) (hous : WOK us) (ts : WT) (ht9 : g (35 + 8) = .inr (8, [.int (nI (wn ts)), .long (lN (sea (wd ts) (wn ts))), .int (nI (wf ts)), .int (nI (wh ts)), .long (lN (wo ts))])) (hots : WOK ts) (ws : WT) (hws9 : g (35 + 9) = .inr (8, [.int (nI (wn ws)), .long (lN (sea (wd ws) (wn ws))), .int (nI (wf ws)), .int (nI (wh ws)), .long (lN (wo ws))])) (hws : WOK ws) (hsv : SINV SE OV KY PA AC SL go an9 sd mc gk us ts) (x0 : Int32) : Met l yX9_met (WS yX9_met cX9_met 2 (some .int)) (rmF 6 135) (PP [.ref (ad 0), .int x0] D cy ad N g) (QI (fun r g1 => ∃ (u2 : WT), ∃ (t2 : WT), ∃ (w2 : WT), ∃ (SE2 : Nat → Int64), ∃ (OV2 : Nat → Int64), ∃ (KY2 : Nat → Int64), ∃ (PA2 : Nat → Int32), ∃ (AC2 : Nat → Int32), ∃ (SL2 : Nat → Nat), ∃ (go2 : Int32), ∃ (gk2 : Int64), ∃ (sd2 : Int32), ∃ (mc2 : Nat), ∃ (an2 : Int32), (r = if isI x0 qc then nI mc2 else -1) ∧ (WOK u2) ∧ (WOK t2) ∧ (WOK w2) ∧ (SINV SE2 OV2 KY2 PA2 AC2 SL2 go2 an2 sd2 mc2 gk2 u2 t2) ∧ (isI x0 qc → sd2 = 1 ∧ weq u2 w ∧ weq t2 (Po x0.toNatClampNeg)) ∧ g1 35 = .inr (2, [.ref (ad (35 + 1)), .ref (ad (35 + 2)), .ref (ad (35 + 3)), .ref (ad (35 + 4)), .ref (ad (35 + 5)), .ref (ad (35 + 6)), .ref (ad (35 + 7)), .ref (ad (35 + 8)), .ref (ad (35 + 9)), .long gk2, .int sd2, .int (nI (mc2)), .int go2, .int an2]) ∧ g1 (35 + 1) = .inl (cy 2, 1500, .inr (.inl SE2)) ∧ g1 (35 + 2) = .inl (cy 2, 1500, .inr (.inl OV2)) ∧ g1 (35 + 3) = .inl (cy 2, 1500, .inr (.inl KY2)) ∧ g1 (35 + 4) = .inl (cy 1, 1500, .inl PA2) ∧ g1 (35 + 5) = .inl (cy 1, 1500, .inl AC2) ∧ g1 (35 + 6) = .inl (cy 1, 4096, .inl (fun x9 => nI (SL2 x9))) ∧ g1 (35 + 7) = .inr (8, [.int (nI (wn u2)), .long (lN (sea (wd u2) (wn u2))), .int (nI (wf u2)), .int (nI (wh u2)), .long (lN (wo u2))]) ∧ g1 (35 + 8) = .inr (8, [.int (nI (wn t2)), .long (lN (sea (wd t2) (wn t2))), .int (nI (wf t2)), .int (nI (wh t2)), .long (lN (wo t2))]) ∧ g1 (35 + 9) = .inr (8, [.int (nI (wn w2)), .long (lN (sea (wd w2) (wn w2))), .int (nI (wf w2)), .int (nI (wh w2)), .long (lN (wo w2))]) ∧ (∀ j, j ≠ 35 → j ≠ (35 + 1) → j ≠ (35 + 2) → j ≠ (35 + 3) → j ≠ (35 + 4) → j ≠ (35 + 5) → j ≠ (35 + 6) → j ≠ (35 + 7) → j ≠ (35 + 8) → j ≠ (35 + 9) → g1 j = g j)) D ad N) 0 0 (AA ad N) := by
  refine mentry (by decide) (Nat.le_of_ble_eq_true rfl) (fun p e s m below meth c ls S hr hlk hnm hP hK hl => ?_)
  have S : CallFix p m c cX9_met 2 s _ wsL_law RX9 := S
  have hx := S.1
  have hb := S.2.1
  have hl : lv_has ls 2 [(0, .ref (ad 0)), (1, .int x0)] := hl
  have hI : MD (AA ad N) ad N := MD.in hinj
  have hS : va_S (AA ad N) s.heap s.heap [] := va_S.rf
  have hfr : ∀ j : Nat, g j = g j := fun _ => rfl
  refine lv_aload_n hx hb dX9_met_0 rfl (lv_at hl 0 rfl) ?_
  refine lv_iload_n hx hb dX9_met_1 rfl (lv_at hl 1 rfl) ?_
  refine kVi (As := [.int x0]) (rest := []) S hK hP (c_X9_isPose l D cy ad N g (by omega) qc fc lf lt vc hX pa hpa hqc x0) cv_X9_231 (by omega) hX ⟨_, _, rfl⟩ ⟨rfl, rfl⟩ rfl hl.1 rfl (Nat.le_of_ble_eq_true rfl) ⟨Nat.zero_le _, Nat.zero_le _⟩ dX9_met_2 (fun r_2 q_2 => ?_)
  subst q_2
  refine lv_if_ne (tgt := 10) hx hb dX9_met_5 (by decide) (fun c_5 => ?_) (fun c_5 => ?_)
  · skip
    have c_5 := bz_ne.mp c_5
    have hJ := c_5
    obtain ⟨i, hib, rfl⟩ := isI_nat (by omega) c_5
    have hib9 : i < 2 ^ 31 := by omega
    refine lv_aload_n hx hb dX9_met_10 rfl (lv_at hl 0 rfl) ?_
    refine mg S hK hP (by omega) hX fd_X9_33 rfl dX9_met_11 ?_
    refine lv_aload_n hx hb dX9_met_14 rfl (lv_at hl 0 rfl) ?_
    refine mg S hK hP (by omega) hX fd_X9_10 rfl dX9_met_15 ?_
    refine mg S hK hP (by omega) hg fd_X9_79 rfl dX9_met_18 ?_
    refine lv_aload_n hx hb dX9_met_21 rfl (lv_at hl 0 rfl) ?_
    refine mg S hK hP (by omega) hX fd_X9_26 rfl dX9_met_22 ?_
    refine lv_iload_n hx hb dX9_met_25 rfl (lv_at hl 1 rfl) ?_
    have hq9_0 : i < 6 := by omega
    have hfc_1 : g (76 + i) = .inr (8, [.int (nI (wn (Po i))), .long (lN (sea (wd (Po i)) (wn (Po i)))), .int (nI (wf (Po i))), .int (nI (wh (Po i))), .long (lN (wo (Po i)))]) := hPo i hq9_0
    refine mial7 S hK hP (by omega) hpa rfl (vp_in_nI (by omega) (by omega)) (a := ad (76 + i)) ((congrArg pa (nI_clamp (by omega))).trans (hpj _ hq9_0)) dX9_met_26 ?_
    refine kMv (As := [.ref (ad (1 + 1)), .ref (ad (76 + i))]) (rest := []) S hK hP hS (fun _ h => h) (c_X2_find l D cy ad N g hinj 35 (by omega) gk sd mc go an9 hgs SE he9 OV ho9 KY hk9 PA hp9 AC ha9 SL hs9 us hu9 hous ts ht9 hots ws hws9 hws hsv (1 + 1) (by omega) w hgn hw (by omega) (76 + i) (by omega) (Po i) hfc_1 (hPok i (by omega)) (by omega)) cv_X9_237 (by omega) hgs ⟨_, _, rfl⟩ ⟨rfl, rfl⟩ rfl hl.1 rfl (Nat.le_of_ble_eq_true rfl) ⟨Nat.zero_le _, Nat.zero_le _⟩ dX9_met_27 (fun g_2 H locs q_2 hP hS => ?_)
    obtain ⟨u2_2, t2_2, w2_2, SE2_2, OV2_2, KY2_2, PA2_2, AC2_2, SL2_2, go2_2, hou2_2, hot2_2, how2_2, hweu_2, hwet_2, hrel2_2, h35_2, h35___1_2, h35___2_2, h35___3_2, h35___4_2, h35___5_2, h35___6_2, h35___7_2, h35___8_2, h35___9_2, f_2⟩ := q_2
    have h0_2 : g_2 0 = .inr (9, [.ref (ad 1), .ref (ad 17), .ref (ad 33), .ref (ad 34), .int (nI (qc)), .ref (ad 35), .ref (ad 45), .ref (ad 47), .ref (ad 52), .int (nI (fc)), .int lf, .int lt, .ref (ad 53), .int (nI (vc)), .ref (ad 54), .ref (ad 75)]) := (f_2 0 (by omega) (by omega) (by omega) (by omega) (by omega) (by omega) (by omega) (by omega) (by omega) (by omega)).trans hX
    have h34_2 : g_2 34 = .inl (cy 6, 6, .inr (.inr (.inr (.inr pa)))) := (f_2 34 (by omega) (by omega) (by omega) (by omega) (by omega) (by omega) (by omega) (by omega) (by omega) (by omega)).trans hpa
    have h1_2 : g_2 1 = .inr (1, [.ref (ad (1 + 1)), .ref (ad (1 + 2)), .int (nI (nx0)), .int (nI (un)), .int rf]) := (f_2 1 (by omega) (by omega) (by omega) (by omega) (by omega) (by omega) (by omega) (by omega) (by omega) (by omega)).trans hg
    have h1___1_2 : g_2 (1 + 1) = .inr (8, [.int (nI (wn w)), .long (lN (sea (wd w) (wn w))), .int (nI (wf w)), .int (nI (wh w)), .long (lN (wo w))]) := (f_2 (1 + 1) (by omega) (by omega) (by omega) (by omega) (by omega) (by omega) (by omega) (by omega) (by omega) (by omega)).trans hgn
    have h1___2_2 : g_2 (1 + 2) = .inl (cy 6, 13, .inr (.inr (.inr (.inr fa)))) := (f_2 (1 + 2) (by omega) (by omega) (by omega) (by omega) (by omega) (by omega) (by omega) (by omega) (by omega) (by omega)).trans hga
    have h76___i_2 : g_2 (76 + i) = .inr (8, [.int (nI (wn (Po i))), .long (lN (sea (wd (Po i)) (wn (Po i)))), .int (nI (wf (Po i))), .int (nI (wh (Po i))), .long (lN (wo (Po i)))]) := (f_2 (76 + i) (by omega) (by omega) (by omega) (by omega) (by omega) (by omega) (by omega) (by omega) (by omega) (by omega)).trans hfc_1
    have hfam_P_2 : (∀ j : Nat, j < 13 → g_2 (1 + 3 + j) = .inr (8, [.int (nI (wn (Pw j))), .long (lN (sea (wd (Pw j)) (wn (Pw j)))), .int (nI (wf (Pw j))), .int (nI (wh (Pw j))), .long (lN (wo (Pw j)))])) := fun j hj => (f_2 (1 + 3 + j) (by omega) (by omega) (by omega) (by omega) (by omega) (by omega) (by omega) (by omega) (by omega) (by omega)).trans (hfam j hj)
    have hfam_Q_2 : (∀ j : Nat, j < 6 → g_2 (76 + j) = .inr (8, [.int (nI (wn (Po j))), .long (lN (sea (wd (Po j)) (wn (Po j)))), .int (nI (wf (Po j))), .int (nI (wh (Po j))), .long (lN (wo (Po j)))])) := fun j hj => (f_2 (76 + j) (by omega) (by omega) (by omega) (by omega) (by omega) (by omega) (by omega) (by omega) (by omega) (by omega)).trans (hPo j hj)
    have hfr_2 : ∀ j : Nat, j ≠ 35 → j ≠ (35 + 1) → j ≠ (35 + 2) → j ≠ (35 + 3) → j ≠ (35 + 4) → j ≠ (35 + 5) → j ≠ (35 + 6) → j ≠ (35 + 7) → j ≠ (35 + 8) → j ≠ (35 + 9) → g_2 j = g j := fun j n0 n1 n2 n3 n4 n5 n6 n7 n8 n9 => (f_2 j n0 n1 n2 n3 n4 n5 n6 n7 n8 n9).trans (hfr j )
    refine lv_aload_n hx hb dX9_met_30 rfl (lv_at hl 0 rfl) ?_
    refine mg S hK hP (by omega) h0_2 fd_X9_33 rfl dX9_met_31 ?_
    refine mg S hK hP (by omega) h35_2 fd_X9_247 rfl dX9_met_34 ?_
    exact rMi S hr hlk hP hS ⟨u2_2, t2_2, w2_2, SE2_2, OV2_2, KY2_2, PA2_2, AC2_2, SL2_2, go2_2, kyW t2_2, 1, qk (srF u2_2 t2_2), ansF (srF u2_2 t2_2), (if_pos hJ).symm, hou2_2, hot2_2, how2_2, ⟨hrel2_2.1, Or.inr ⟨rfl, hrel2_2, rfl, rfl, rfl⟩⟩, (fun _ => ⟨rfl, hweu_2, (by rw [nI_clamp hib9]; exact hwet_2)⟩), h35_2, h35___1_2, h35___2_2, h35___3_2, h35___4_2, h35___5_2, h35___6_2, h35___7_2, h35___8_2, h35___9_2, hfr_2⟩ dX9_met_37
  · skip
    have c_5 := bz_eq.mp c_5
    have hJ : ¬ isI x0 qc := c_5
    refine lv_iconst (v := (-1)) hx hb dX9_met_8 (by decide) ?_
    exact rMi S hr hlk hP hS ⟨us, ts, ws, SE, OV, KY, PA, AC, SL, go, gk, sd, mc, an9, (if_neg hJ).symm, hous, hots, hws, hsv, (fun q => absurd q hJ), hgs, he9, ho9, hk9, hp9, ha9, hs9, hu9, ht9, hws9, (fun j n0 n1 n2 n3 n4 n5 n6 n7 n8 n9 => hfr j )⟩ dX9_met_9
set_option maxHeartbeats 4000000 in
set_option maxRecDepth 100000 in
theorem c_X9_can (l : Launch) (D : va_G) (cy : Nat → ClassId) (ad : Nat → Nat) (N : Nat) (g : Nat → va_E) (hinj : ∀ i j : Nat, i < N → j < N → ad i = ad j → i = j) (hN : 114 ≤ N) (qc : Nat) (fc : Nat) (lf : Int32) (lt : Int32) (vc : Nat) (hX : g 0 = .inr (9, [.ref (ad 1), .ref (ad 17), .ref (ad 33), .ref (ad 34), .int (nI (qc)), .ref (ad 35), .ref (ad 45), .ref (ad 47), .ref (ad 52), .int (nI (fc)), .int lf, .int lt, .ref (ad 53), .int (nI (vc)), .ref (ad 54), .ref (ad 75)])) (nx0 : Nat) (un : Nat) (rf : Int32) (hg : g 1 = .inr (1, [.ref (ad (1 + 1)), .ref (ad (1 + 2)), .int (nI (nx0)), .int (nI (un)), .int rf])) (w : WT) (hgn : g (1 + 1) = .inr (8, [.int (nI (wn w)), .long (lN (sea (wd w) (wn w))), .int (nI (wf w)), .int (nI (wh w)), .long (lN (wo w))])) (fa : Nat → Option Nat) (hga : g (1 + 2) = .inl (cy 6, 13, .inr (.inr (.inr (.inr fa))))) (hfa : ∀ j, j < 13 → fa j = some (ad (1 + 3 + j))) (Pw : Nat → WT) (hfam : (∀ j : Nat, j < 13 → g (1 + 3 + j) = .inr (8, [.int (nI (wn (Pw j))), .long (lN (sea (wd (Pw j)) (wn (Pw j)))), .int (nI (wf (Pw j))), .int (nI (wh (Pw j))), .long (lN (wo (Pw j)))]))) (hnx : nx0 < 13) (hun : un ≤ 12) (hw : WOK w) (hPw : ∀ j, j < 13 → WOK (Pw j)) (wq : WT) (hwq : g 33 = .inr (8, [.int (nI (wn wq)), .long (lN (sea (wd wq) (wn wq))), .int (nI (wf wq)), .int (nI (wh wq)), .long (lN (wo wq))])) (hwqk : WOK wq) (s0 : Int32) : Met l yX9_can (WS yX9_can cX9_can 4 (some .int)) (rmF 4 90) (PP [.ref (ad 0), .int s0] D cy ad N g) (QI (fun r g1 => ∃ (wp2 : WT), (r = if s0 = nI 0 ∨ s0 = nI 1 then nI (cnS w s0 (wn w)) else -1) ∧ (WOK wp2) ∧ g1 33 = .inr (8, [.int (nI (wn wp2)), .long (lN (sea (wd wp2) (wn wp2))), .int (nI (wf wp2)), .int (nI (wh wp2)), .long (lN (wo wp2))]) ∧ (∀ j, j ≠ 33 → g1 j = g j)) D ad N) 0 0 (AA ad N) := by
  refine mentry (by decide) (Nat.le_of_ble_eq_true rfl) (fun p e s m below meth c ls S hr hlk hnm hP hK hl => ?_)
  have S : CallFix p m c cX9_can 4 s _ wsL_law RX9 := S
  have hx := S.1
  have hb := S.2.1
  have hl : lv_has ls 4 [(0, .ref (ad 0)), (1, .int s0)] := hl
  have hI : MD (AA ad N) ad N := MD.in hinj
  have hS : va_S (AA ad N) s.heap s.heap [] := va_S.rf
  have hfr : ∀ j : Nat, g j = g j := fun _ => rfl
  have hn4 := hw.1.1
  have hn8 := hw.1.2
  have hpm := hw.2.1
  have hda := hpm.1
  have hf := lt256 hw.2.2.1 hn8
  have hh := lt256 hw.2.2.2.1 hn8
  have ho := hw.2.2.2.2.1
  refine lv_iload_n hx hb dX9_can_0 rfl (lv_at hl 1 rfl) ?_
  have J11 : (s0 = nI 0 ∨ s0 = nI 1) → ∀ (ls : Array Slot), lv_has ls 4 [(0, .ref (ad 0)), (1, .int s0)] → W p l e (rmF 4 90) s m [.ref (ad 0), .int s0].toArray below meth c s.heap [] 0 0 (MQ below (QI (fun r g1 => ∃ (wp2 : WT), (r = if s0 = nI 0 ∨ s0 = nI 1 then nI (cnS w s0 (wn w)) else -1) ∧ (WOK wp2) ∧ g1 33 = .inr (8, [.int (nI (wn wp2)), .long (lN (sea (wd wp2) (wn wp2))), .int (nI (wf wp2)), .int (nI (wh wp2)), .long (lN (wo wp2))]) ∧ (∀ j, j ≠ 33 → g1 j = g j)) D ad N) [.ref (ad 0), .int s0].toArray s 0 0 (AA ad N)) (F0 m 11 ls []) := by
    intro hQ9 ls hl
    refine lv_iconst (v := nI (0)) hx hb dX9_can_11 (by decide) ?_
    refine tpi (rfl) ?_
    refine lv_istore_n (lv' := [(2, .int (nI (cnS w s0 0))), (0, .ref (ad 0)), (1, .int s0)]) hx hb dX9_can_12 rfl hl (by decide) rfl (fun ls hl => ?_)
    refine lv_iconst (v := nI (0)) hx hb dX9_can_13 (by decide) ?_
    refine lv_istore_n (lv' := [(3, .int (nI (0))), (2, .int (nI (cnS w s0 0))), (0, .ref (ad 0)), (1, .int s0)]) hx hb dX9_can_14 rfl hl (by decide) rfl (fun ls hl => ?_)
    have L15 : ∀ (fu : Nat) (p9 : Nat) (w3 : WT), (p9 ≤ wn w) → (WOK w3) → (wn w - p9) < fu → ∀ (g_1 : Nat → va_E) (H : Heap) (locs : List Loc), g_1 33 = .inr (8, [.int (nI (wn w3)), .long (lN (sea (wd w3) (wn w3))), .int (nI (wf w3)), .int (nI (wh w3)), .long (lN (wo w3))]) → (∀ j : Nat, j ≠ 33 → g_1 j = g j) → MM D ad N g_1 H → va_S (AA ad N) s.heap H locs → ∀ (ls : Array Slot), lv_has ls 4 [(3, .int (nI (p9))), (2, .int (nI (cnS w s0 p9))), (0, .ref (ad 0)), (1, .int s0)] → W p l e (rmF 4 90) s m [.ref (ad 0), .int s0].toArray below meth c H locs 0 0 (MQ below (QI (fun r g1 => ∃ (wp2 : WT), (r = if s0 = nI 0 ∨ s0 = nI 1 then nI (cnS w s0 (wn w)) else -1) ∧ (WOK wp2) ∧ g1 33 = .inr (8, [.int (nI (wn wp2)), .long (lN (sea (wd wp2) (wn wp2))), .int (nI (wf wp2)), .int (nI (wh wp2)), .long (lN (wo wp2))]) ∧ (∀ j, j ≠ 33 → g1 j = g j)) D ad N) [.ref (ad 0), .int s0].toArray s 0 0 (AA ad N)) (F0 m 15 ls []) := by
      intro fu
      induction fu with
      | zero => intro p9 w3 hp9 hw3 hms g_1 H locs h33_1 hfr_1 hP hS ls hl; exact absurd hms (Nat.not_lt_zero _)
      | succ fu ih15 =>
        intro p9 w3 hp9 hw3 hms g_1 H locs h33_1 hfr_1 hP hS ls hl
        have h0_1 : g_1 0 = .inr (9, [.ref (ad 1), .ref (ad 17), .ref (ad 33), .ref (ad 34), .int (nI (qc)), .ref (ad 35), .ref (ad 45), .ref (ad 47), .ref (ad 52), .int (nI (fc)), .int lf, .int lt, .ref (ad 53), .int (nI (vc)), .ref (ad 54), .ref (ad 75)]) := (hfr_1 0 (by omega)).trans hX
        have h1_1 : g_1 1 = .inr (1, [.ref (ad (1 + 1)), .ref (ad (1 + 2)), .int (nI (nx0)), .int (nI (un)), .int rf]) := (hfr_1 1 (by omega)).trans hg
        have h1___1_1 : g_1 (1 + 1) = .inr (8, [.int (nI (wn w)), .long (lN (sea (wd w) (wn w))), .int (nI (wf w)), .int (nI (wh w)), .long (lN (wo w))]) := (hfr_1 (1 + 1) (by omega)).trans hgn
        have h1___2_1 : g_1 (1 + 2) = .inl (cy 6, 13, .inr (.inr (.inr (.inr fa)))) := (hfr_1 (1 + 2) (by omega)).trans hga
        have hfam_P_1 : (∀ j : Nat, j < 13 → g_1 (1 + 3 + j) = .inr (8, [.int (nI (wn (Pw j))), .long (lN (sea (wd (Pw j)) (wn (Pw j)))), .int (nI (wf (Pw j))), .int (nI (wh (Pw j))), .long (lN (wo (Pw j)))])) := fun j hj => (hfr_1 _ (by omega)).trans (hfam j hj)
        have hcb := cnS_lt w s0 p9 (by omega)
        refine lv_iload_n hx hb dX9_can_15 rfl (lv_at hl 0 rfl) ?_
        refine lv_aload_n hx hb dX9_can_16 rfl (lv_at hl 2 rfl) ?_
        refine mg S hK hP (by omega) h0_1 fd_X9_10 rfl dX9_can_17 ?_
        refine mg S hK hP (by omega) h1_1 fd_X9_79 rfl dX9_can_20 ?_
        refine mg S hK hP (by omega) h1___1_1 fd_X9_101 rfl dX9_can_23 ?_
        refine lv_icmp_ge (tgt := 68) hx hb dX9_can_26 (by decide) (fun c_26 => ?_) (fun c_26 => ?_)
        · skip
          have c_26 := (nI_leI (by omega) (by omega)).mp c_26
          refine lv_iload_n hx hb dX9_can_68 rfl (lv_at hl 1 rfl) ?_
          exact rMi S hr hlk hP hS ⟨w3, (by rw [if_pos hQ9, show wn w = p9 by omega]), hw3, h33_1, hfr_1⟩ dX9_can_69
        · skip
          have c_26 := (not_congr (nI_leI (by omega) (by omega))).mp c_26
          refine lv_aload_n hx hb dX9_can_29 rfl (lv_at hl 2 rfl) ?_
          refine mg S hK hP (by omega) h0_1 fd_X9_22 rfl dX9_can_30 ?_
          refine lv_aload_n hx hb dX9_can_33 rfl (lv_at hl 2 rfl) ?_
          refine mg S hK hP (by omega) h0_1 fd_X9_10 rfl dX9_can_34 ?_
          refine mg S hK hP (by omega) h1_1 fd_X9_79 rfl dX9_can_37 ?_
          refine kMv (As := [.ref (ad (1 + 1))]) (rest := []) S hK hP hS (fun _ h => h) (c_X8_becomeW l D cy ad N g_1 hinj 33 (by omega) w3 h33_1 (1 + 1) (by omega) w h1___1_1 (by omega)) cv_X9_160 (by omega) h33_1 ⟨_, _, rfl⟩ ⟨rfl, rfl⟩ rfl hl.1 rfl (Nat.le_of_ble_eq_true rfl) ⟨Nat.zero_le _, Nat.zero_le _⟩ dX9_can_40 (fun g_2 H locs q_2 hP hS => ?_)
          obtain ⟨h33_2, f_2⟩ := q_2
          have h0_2 : g_2 0 = .inr (9, [.ref (ad 1), .ref (ad 17), .ref (ad 33), .ref (ad 34), .int (nI (qc)), .ref (ad 35), .ref (ad 45), .ref (ad 47), .ref (ad 52), .int (nI (fc)), .int lf, .int lt, .ref (ad 53), .int (nI (vc)), .ref (ad 54), .ref (ad 75)]) := (f_2 0 (by omega)).trans h0_1
          have h1_2 : g_2 1 = .inr (1, [.ref (ad (1 + 1)), .ref (ad (1 + 2)), .int (nI (nx0)), .int (nI (un)), .int rf]) := (f_2 1 (by omega)).trans h1_1
          have h1___1_2 : g_2 (1 + 1) = .inr (8, [.int (nI (wn w)), .long (lN (sea (wd w) (wn w))), .int (nI (wf w)), .int (nI (wh w)), .long (lN (wo w))]) := (f_2 (1 + 1) (by omega)).trans h1___1_1
          have h1___2_2 : g_2 (1 + 2) = .inl (cy 6, 13, .inr (.inr (.inr (.inr fa)))) := (f_2 (1 + 2) (by omega)).trans h1___2_1
          have hfam_P_2 : (∀ j : Nat, j < 13 → g_2 (1 + 3 + j) = .inr (8, [.int (nI (wn (Pw j))), .long (lN (sea (wd (Pw j)) (wn (Pw j)))), .int (nI (wf (Pw j))), .int (nI (wh (Pw j))), .long (lN (wo (Pw j)))])) := fun j hj => (f_2 (1 + 3 + j) (by omega)).trans (hfam_P_1 j hj)
          have hfr_2 : ∀ j : Nat, j ≠ 33 → g_2 j = g j := fun j n0 => (f_2 j n0).trans (hfr_1 j n0)
          refine lv_aload_n hx hb dX9_can_43 rfl (lv_at hl 2 rfl) ?_
          refine mg S hK hP (by omega) h0_2 fd_X9_22 rfl dX9_can_44 ?_
          refine lv_iload_n hx hb dX9_can_47 rfl (lv_at hl 3 rfl) ?_
          refine lv_iload_n hx hb dX9_can_48 rfl (lv_at hl 0 rfl) ?_
          refine kMi (As := [.int s0, .int (nI (p9))]) (rest := []) S hK hP hS (fun _ h => h) (c_X8_change l D cy ad N g_2 hinj 33 (by omega) w h33_2 hw s0 (nI (p9))) cv_X9_164 (by omega) h33_2 ⟨_, _, rfl⟩ ⟨rfl, rfl⟩ rfl hl.1 rfl (Nat.le_of_ble_eq_true rfl) ⟨Nat.zero_le _, Nat.zero_le _⟩ dX9_can_49 (fun r_49 g_3 H locs q_3 hP hS => ?_)
          obtain ⟨q_49, h33_3, f_3⟩ := q_3
          subst q_49
          have h0_3 : g_3 0 = .inr (9, [.ref (ad 1), .ref (ad 17), .ref (ad 33), .ref (ad 34), .int (nI (qc)), .ref (ad 35), .ref (ad 45), .ref (ad 47), .ref (ad 52), .int (nI (fc)), .int lf, .int lt, .ref (ad 53), .int (nI (vc)), .ref (ad 54), .ref (ad 75)]) := (f_3 0 (by omega)).trans h0_2
          have h1_3 : g_3 1 = .inr (1, [.ref (ad (1 + 1)), .ref (ad (1 + 2)), .int (nI (nx0)), .int (nI (un)), .int rf]) := (f_3 1 (by omega)).trans h1_2
          have h1___1_3 : g_3 (1 + 1) = .inr (8, [.int (nI (wn w)), .long (lN (sea (wd w) (wn w))), .int (nI (wf w)), .int (nI (wh w)), .long (lN (wo w))]) := (f_3 (1 + 1) (by omega)).trans h1___1_2
          have h1___2_3 : g_3 (1 + 2) = .inl (cy 6, 13, .inr (.inr (.inr (.inr fa)))) := (f_3 (1 + 2) (by omega)).trans h1___2_2
          have hfam_P_3 : (∀ j : Nat, j < 13 → g_3 (1 + 3 + j) = .inr (8, [.int (nI (wn (Pw j))), .long (lN (sea (wd (Pw j)) (wn (Pw j)))), .int (nI (wf (Pw j))), .int (nI (wh (Pw j))), .long (lN (wo (Pw j)))])) := fun j hj => (f_3 (1 + 3 + j) (by omega)).trans (hfam_P_2 j hj)
          have hfr_3 : ∀ j : Nat, j ≠ 33 → g_3 j = g j := fun j n0 => (f_3 j n0).trans (hfr_2 j n0)
          refine lv_iconst (v := nI (1)) hx hb dX9_can_52 (by decide) ?_
          refine lv_icmp_ne (tgt := 62) hx hb dX9_can_53 (by decide) (fun c_53 => ?_) (fun c_53 => ?_)
          · skip
            have hl : lv_has ls 4 [(3, .int (nI (p9))), (2, .int (nI (cnS w s0 (p9 + 1)))), (0, .ref (ad 0)), (1, .int s0)] := by rw [← cnS_n c_53]; exact hl
            refine lv_iinc (v := nI (p9 + 1)) (lv' := [(3, .int (nI (p9 + 1))), (2, .int (nI (cnS w s0 (p9 + 1)))), (0, .ref (ad 0)), (1, .int s0)]) hx hb dX9_can_62 hl (k := 0) rfl (by exact nI_add p9 1) (by decide) rfl (fun ls hl => ?_)
            refine lv_goto (tgt := 15) hx hb dX9_can_65 (by decide) ?_
            exact ih15 (p9 + 1) ((chg w s0 (nI (p9))).2) (by omega) (chg_ok hw).1 (by omega) g_3 _ _ h33_3 hfr_3 hP hS _ (lv_sub hl [0, 1, 2, 3] rfl)
          · skip
            refine lv_iload_n hx hb dX9_can_56 rfl (lv_at hl 1 rfl) ?_
            refine lv_iconst (v := nI (1)) hx hb dX9_can_57 (by decide) ?_
            refine lv_iload_n hx hb dX9_can_58 rfl (lv_at hl 0 rfl) ?_
            refine lv_ishl hx hb dX9_can_59 ?_
            refine tpi (shlN 1 (by omega)) ?_
            refine tpi (by rw [Nat.one_mul]) ?_
            refine lv_ior hx hb dX9_can_60 ?_
            refine tpi (nI_or (cnS w s0 p9) (2 ^ p9)) ?_
            refine tpi (congrArg nI (cnS_y c_53)) ?_
            refine lv_istore_n (lv' := [(2, .int (nI (cnS w s0 (p9 + 1)))), (3, .int (nI (p9))), (0, .ref (ad 0)), (1, .int s0)]) hx hb dX9_can_61 rfl hl (by decide) rfl (fun ls hl => ?_)
            refine lv_iinc (v := nI (p9 + 1)) (lv' := [(3, .int (nI (p9 + 1))), (2, .int (nI (cnS w s0 (p9 + 1)))), (0, .ref (ad 0)), (1, .int s0)]) hx hb dX9_can_62 hl (k := 1) rfl (by exact nI_add p9 1) (by decide) rfl (fun ls hl => ?_)
            refine lv_goto (tgt := 15) hx hb dX9_can_65 (by decide) ?_
            exact ih15 (p9 + 1) ((chg w s0 (nI (p9))).2) (by omega) (chg_ok hw).1 (by omega) g_3 _ _ h33_3 hfr_3 hP hS _ (lv_sub hl [0, 1, 2, 3] rfl)
    exact L15 ((wn w - 0) + 1) 0 wq (by omega) hwqk (Nat.lt_succ_self _) g _ _ hwq (fun j n0 => hfr j ) hP hS _ (lv_sub hl [0, 1, 2, 3] rfl)
  refine lv_if_eq (tgt := 11) hx hb dX9_can_1 (by decide) (fun c_1 => ?_) (fun c_1 => ?_)
  · skip
    exact J11 (Or.inl c_1) _ (lv_sub hl [0, 1] rfl)
  · skip
    refine lv_iload_n hx hb dX9_can_4 rfl (lv_at hl 1 rfl) ?_
    refine lv_iconst (v := nI (1)) hx hb dX9_can_5 (by decide) ?_
    refine lv_icmp_eq (tgt := 11) hx hb dX9_can_6 (by decide) (fun c_6 => ?_) (fun c_6 => ?_)
    · skip
      exact J11 (Or.inr c_6) _ (lv_sub hl [0, 1] rfl)
    · skip
      refine lv_iconst (v := (-1)) hx hb dX9_can_9 (by decide) ?_
      exact rMi S hr hlk hP hS ⟨wq, (if_neg (fun q => q.elim c_1 c_6)).symm, hwqk, hwq, (fun j n0 => hfr j )⟩ dX9_can_10

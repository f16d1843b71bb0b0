set_option maxHeartbeats 4000000 in
set_option maxRecDepth 100000 in
theorem c_X9_act (l : Launch) (D : va_G) (cy : Nat → ClassId) (ad : Nat → Nat) (N : Nat) (g : Nat → va_E) (hinj : ∀ i j : Nat, i < N → j < N → ad i = ad j → i = j) (hN : 114 ≤ N) (qc : Nat) (fc : Nat) (lf : Int32) (lt : Int32) (vc : Nat) (hX : g 0 = .inr (9, [.ref (ad 1), .ref (ad 17), .ref (ad 33), .ref (ad 34), .int (nI (qc)), .ref (ad 35), .ref (ad 45), .ref (ad 47), .ref (ad 52), .int (nI (fc)), .int lf, .int lt, .ref (ad 53), .int (nI (vc)), .ref (ad 54), .ref (ad 75)])) (nx0 : Nat) (un : Nat) (rf : Int32) (hg : g 1 = .inr (1, [.ref (ad (1 + 1)), .ref (ad (1 + 2)), .int (nI (nx0)), .int (nI (un)), .int rf])) (w : WT) (hgn : g (1 + 1) = .inr (8, [.int (nI (wn w)), .long (lN (sea (wd w) (wn w))), .int (nI (wf w)), .int (nI (wh w)), .long (lN (wo w))])) (fa : Nat → Option Nat) (hga : g (1 + 2) = .inl (cy 6, 13, .inr (.inr (.inr (.inr fa))))) (hfa : ∀ j, j < 13 → fa j = some (ad (1 + 3 + j))) (Pw : Nat → WT) (hfam : (∀ j : Nat, j < 13 → g (1 + 3 + j) = .inr (8, [.int (nI (wn (Pw j))), .long (lN (sea (wd (Pw j)) (wn (Pw j)))), .int (nI (wf (Pw j))), .int (nI (wh (Pw j))), .long (lN (wo (Pw j)))]))) (hnx : nx0 < 13) (hun : un ≤ 12) (hw : WOK w) (hPw : ∀ j, j < 13 → WOK (Pw j)) (s0 : Int32) (k0 : Int32) : Met l yX9_act (WS yX9_act cX9_act 3 (some .int)) (rmF 5 113) (PP [.ref (ad 0), .int s0, .int k0] D cy ad N g) (QI (fun r g1 => (r = (chg w s0 k0).1) ∧ g1 1 = .inr (1, [.ref (ad (1 + 1)), .ref (ad (1 + 2)), .int (nI ((if (chg w s0 k0).1 = 1 then (if nx0 + 1 < 13 then nx0 + 1 else 0) else nx0))), .int (nI ((if (chg w s0 k0).1 = 1 then (if un + 1 < 12 then un + 1 else 12) else un))), .int rf]) ∧ g1 (1 + 1) = .inr (8, [.int (nI (wn ((chg w s0 k0).2))), .long (lN (sea (wd ((chg w s0 k0).2)) (wn ((chg w s0 k0).2)))), .int (nI (wf ((chg w s0 k0).2))), .int (nI (wh ((chg w s0 k0).2))), .long (lN (wo ((chg w s0 k0).2)))]) ∧ g1 (1 + 2) = .inl (cy 6, 13, .inr (.inr (.inr (.inr fa)))) ∧ (∀ j : Nat, j < 13 → g1 (1 + 3 + j) = .inr (8, [.int (nI (wn ((va_up Pw nx0 w) j))), .long (lN (sea (wd ((va_up Pw nx0 w) j)) (wn ((va_up Pw nx0 w) j)))), .int (nI (wf ((va_up Pw nx0 w) j))), .int (nI (wh ((va_up Pw nx0 w) j))), .long (lN (wo ((va_up Pw nx0 w) j)))])) ∧ (∀ j, (j < 1 ∨ 17 ≤ j) → g1 j = g j)) D ad N) 0 0 (AA ad N) := by
  refine mentry (by decide) (Nat.le_of_ble_eq_true rfl) (fun p e s m below meth c ls S hr hlk hnm hP hK hl => ?_)
  have S : CallFix p m c cX9_act 3 s _ wsL_law RX9 := S
  have hx := S.1
  have hb := S.2.1
  have hl : lv_has ls 3 [(0, .ref (ad 0)), (1, .int s0), (2, .int k0)] := hl
  have hI : MD (AA ad N) ad N := MD.in hinj
  have hS : va_S (AA ad N) s.heap s.heap [] := va_S.rf
  have hfr : ∀ j : Nat, g j = g j := fun _ => rfl
  refine lv_aload_n hx hb dX9_act_0 rfl (lv_at hl 0 rfl) ?_
  refine mg S hK hP (by omega) hX fd_X9_10 rfl dX9_act_1 ?_
  refine lv_iload_n hx hb dX9_act_4 rfl (lv_at hl 1 rfl) ?_
  refine lv_iload_n hx hb dX9_act_5 rfl (lv_at hl 2 rfl) ?_
  refine kMi (As := [.int s0, .int k0]) (rest := []) S hK hP hS (fun _ h => h) (c_X1_attempt l D cy ad N g hinj 1 (by omega) nx0 un rf hg w hgn fa hga hfa Pw hfam (by omega) (by omega) hw hPw s0 k0) cv_X9_93 (by omega) hg ⟨_, _, rfl⟩ ⟨rfl, rfl⟩ rfl hl.1 rfl (Nat.le_of_ble_eq_true rfl) ⟨Nat.zero_le _, Nat.zero_le _⟩ dX9_act_6 (fun r_6 g_1 H locs q_1 hP hS => ?_)
  obtain ⟨q_6, h1_1, h1___1_1, h1___2_1, hfam_P_1, f_1⟩ := q_1
  subst q_6
  have h0_1 : g_1 0 = .inr (9, [.ref (ad 1), .ref (ad 17), .ref (ad 33), .ref (ad 34), .int (nI (qc)), .ref (ad 35), .ref (ad 45), .ref (ad 47), .ref (ad 52), .int (nI (fc)), .int lf, .int lt, .ref (ad 53), .int (nI (vc)), .ref (ad 54), .ref (ad 75)]) := (f_1 0 (by omega)).trans hX
  have hfr_1 : ∀ j : Nat, (j < 1 ∨ 1 + 16 ≤ j) → g_1 j = g j := fun j n0 => (f_1 j n0).trans (hfr j )
  exact rMi S hr hlk hP hS ⟨rfl, h1_1, h1___1_1, h1___2_1, hfam_P_1, (fun j n0 => hfr_1 j (by omega))⟩ dX9_act_9
set_option maxHeartbeats 4000000 in
set_option maxRecDepth 100000 in
theorem c_X9_undo (l : Launch) (D : va_G) (cy : Nat → ClassId) (ad : Nat → Nat) (N : Nat) (g : Nat → va_E) (hinj : ∀ i j : Nat, i < N → j < N → ad i = ad j → i = j) (hN : 114 ≤ N) (qc : Nat) (fc : Nat) (lf : Int32) (lt : Int32) (vc : Nat) (hX : g 0 = .inr (9, [.ref (ad 1), .ref (ad 17), .ref (ad 33), .ref (ad 34), .int (nI (qc)), .ref (ad 35), .ref (ad 45), .ref (ad 47), .ref (ad 52), .int (nI (fc)), .int lf, .int lt, .ref (ad 53), .int (nI (vc)), .ref (ad 54), .ref (ad 75)])) (nx0 : Nat) (un : Nat) (rf : Int32) (hg : g 1 = .inr (1, [.ref (ad (1 + 1)), .ref (ad (1 + 2)), .int (nI (nx0)), .int (nI (un)), .int rf])) (w : WT) (hgn : g (1 + 1) = .inr (8, [.int (nI (wn w)), .long (lN (sea (wd w) (wn w))), .int (nI (wf w)), .int (nI (wh w)), .long (lN (wo w))])) (fa : Nat → Option Nat) (hga : g (1 + 2) = .inl (cy 6, 13, .inr (.inr (.inr (.inr fa))))) (hfa : ∀ j, j < 13 → fa j = some (ad (1 + 3 + j))) (Pw : Nat → WT) (hfam : (∀ j : Nat, j < 13 → g (1 + 3 + j) = .inr (8, [.int (nI (wn (Pw j))), .long (lN (sea (wd (Pw j)) (wn (Pw j)))), .int (nI (wf (Pw j))), .int (nI (wh (Pw j))), .long (lN (wo (Pw j)))]))) (hnx : nx0 < 13) (hun : un ≤ 12) (hw : WOK w) (hPw : ∀ j, j < 13 → WOK (Pw j)) : Met l yX9_undo (WS yX9_undo cX9_undo 1 (some .int)) (rmF 2 41) (PP [.ref (ad 0)] D cy ad N g) (QI (fun r g1 => (r = if un = 0 then -4 else nI (un - 1)) ∧ g1 1 = .inr (1, [.ref (ad (1 + 1)), .ref (ad (1 + 2)), .int (nI ((if un = 0 then nx0 else pv 13 nx0))), .int (nI ((if un = 0 then 0 else un - 1))), .int rf]) ∧ g1 (1 + 1) = .inr (8, [.int (nI (wn ((if un = 0 then w else Pw (pv 13 nx0))))), .long (lN (sea (wd ((if un = 0 then w else Pw (pv 13 nx0)))) (wn ((if un = 0 then w else Pw (pv 13 nx0)))))), .int (nI (wf ((if un = 0 then w else Pw (pv 13 nx0))))), .int (nI (wh ((if un = 0 then w else Pw (pv 13 nx0))))), .long (lN (wo ((if un = 0 then w else Pw (pv 13 nx0)))))]) ∧ g1 (1 + 2) = .inl (cy 6, 13, .inr (.inr (.inr (.inr fa)))) ∧ (∀ j : Nat, j < 13 → g1 (1 + 3 + j) = .inr (8, [.int (nI (wn (Pw j))), .long (lN (sea (wd (Pw j)) (wn (Pw j)))), .int (nI (wf (Pw j))), .int (nI (wh (Pw j))), .long (lN (wo (Pw j)))])) ∧ (∀ j, (j < 1 ∨ 17 ≤ j) → g1 j = g j)) D ad N) 0 0 (AA ad N) := by
  refine mentry (by decide) (Nat.le_of_ble_eq_true rfl) (fun p e s m below meth c ls S hr hlk hnm hP hK hl => ?_)
  have S : CallFix p m c cX9_undo 1 s _ wsL_law RX9 := S
  have hx := S.1
  have hb := S.2.1
  have hl : lv_has ls 1 [(0, .ref (ad 0))] := hl
  have hI : MD (AA ad N) ad N := MD.in hinj
  have hS : va_S (AA ad N) s.heap s.heap [] := va_S.rf
  have hfr : ∀ j : Nat, g j = g j := fun _ => rfl
  refine lv_aload_n hx hb dX9_undo_0 rfl (lv_at hl 0 rfl) ?_
  refine mg S hK hP (by omega) hX fd_X9_10 rfl dX9_undo_1 ?_
  refine kMi (As := []) (rest := []) S hK hP hS (fun _ h => h) (c_X1_takeBack l D cy ad N g hinj 1 (by omega) nx0 un rf hg w hgn fa hga hfa Pw hfam (by omega) (by omega) hw hPw) cv_X9_97 (by omega) hg ⟨_, _, rfl⟩ ⟨rfl, rfl⟩ rfl hl.1 rfl (Nat.le_of_ble_eq_true rfl) ⟨Nat.zero_le _, Nat.zero_le _⟩ dX9_undo_4 (fun r_4 g_1 H locs q_1 hP hS => ?_)
  obtain ⟨q_4, h1_1, h1___1_1, h1___2_1, hfam_P_1, f_1⟩ := q_1
  subst q_4
  have h0_1 : g_1 0 = .inr (9, [.ref (ad 1), .ref (ad 17), .ref (ad 33), .ref (ad 34), .int (nI (qc)), .ref (ad 35), .ref (ad 45), .ref (ad 47), .ref (ad 52), .int (nI (fc)), .int lf, .int lt, .ref (ad 53), .int (nI (vc)), .ref (ad 54), .ref (ad 75)]) := (f_1 0 (by omega)).trans hX
  have hfr_1 : ∀ j : Nat, (j < 1 ∨ 1 + 16 ≤ j) → g_1 j = g j := fun j n0 => (f_1 j n0).trans (hfr j )
  exact rMi S hr hlk hP hS ⟨rfl, h1_1, h1___1_1, h1___2_1, hfam_P_1, (fun j n0 => hfr_1 j (by omega))⟩ dX9_undo_7
set_option maxHeartbeats 4000000 in
set_option maxRecDepth 100000 in
theorem c_X9_fault (l : Launch) (D : va_G) (cy : Nat → ClassId) (ad : Nat → Nat) (N : Nat) (g : Nat → va_E) (hN : 114 ≤ N) (qc : Nat) (fc : Nat) (lf : Int32) (lt : Int32) (vc : Nat) (hX : g 0 = .inr (9, [.ref (ad 1), .ref (ad 17), .ref (ad 33), .ref (ad 34), .int (nI (qc)), .ref (ad 35), .ref (ad 45), .ref (ad 47), .ref (ad 52), .int (nI (fc)), .int lf, .int lt, .ref (ad 53), .int (nI (vc)), .ref (ad 54), .ref (ad 75)])) : Met l yX9_fault (WS yX9_fault cX9_fault 1 (some .int)) (rmF 0 0) (PP [.ref (ad 0)] D cy ad N g) (vp_Si (fun r => r = lf)) 0 0 (fun _ => False) := by
  refine mentry (by decide) (Nat.le_of_ble_eq_true rfl) (fun p e s m below meth c ls S hr hlk hnm hP hK hl => ?_)
  have S : CallFix p m c cX9_fault 1 s _ wsL_law RX9 := S
  have hx := S.1
  have hb := S.2.1
  have hl : lv_has ls 1 [(0, .ref (ad 0))] := hl
  refine lv_aload_n hx hb dX9_fault_0 rfl (lv_at hl 0 rfl) ?_
  refine mg S hK hP (by omega) hX fd_X9_184 rfl dX9_fault_1 ?_
  exact rSi S hr hlk rfl dX9_fault_4
set_option maxHeartbeats 4000000 in
set_option maxRecDepth 100000 in
theorem c_X9_why (l : Launch) (D : va_G) (cy : Nat → ClassId) (ad : Nat → Nat) (N : Nat) (g : Nat → va_E) (hN : 114 ≤ N) (qc : Nat) (fc : Nat) (lf : Int32) (lt : Int32) (vc : Nat) (hX : g 0 = .inr (9, [.ref (ad 1), .ref (ad 17), .ref (ad 33), .ref (ad 34), .int (nI (qc)), .ref (ad 35), .ref (ad 45), .ref (ad 47), .ref (ad 52), .int (nI (fc)), .int lf, .int lt, .ref (ad 53), .int (nI (vc)), .ref (ad 54), .ref (ad 75)])) : Met l yX9_why (WS yX9_why cX9_why 1 (some .int)) (rmF 0 0) (PP [.ref (ad 0)] D cy ad N g) (vp_Si (fun r => r = lt)) 0 0 (fun _ => False) := by
  refine mentry (by decide) (Nat.le_of_ble_eq_true rfl) (fun p e s m below meth c ls S hr hlk hnm hP hK hl => ?_)
  have S : CallFix p m c cX9_why 1 s _ wsL_law RX9 := S
  have hx := S.1
  have hb := S.2.1
  have hl : lv_has ls 1 [(0, .ref (ad 0))] := hl
  refine lv_aload_n hx hb dX9_why_0 rfl (lv_at hl 0 rfl) ?_
  refine mg S hK hP (by omega) hX fd_X9_218 rfl dX9_why_1 ?_
  exact rSi S hr hlk rfl dX9_why_4

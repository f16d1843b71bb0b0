theorem c_X8_becomeW (l : Launch) (D : va_G) (cy : Nat → ClassId) (ad : Nat → Nat) (N : Nat) (g : Nat → va_E) (hinj : ∀ i j : Nat, i < N → j < N → ad i = ad j → i = j) (k : Nat) (hk : k < N) (w : WT) (hg : g k = .inr (8, [.int (nI (wn w)), .long (lN (sea (wd w) (wn w))), .int (nI (wf w)), .int (nI (wh w)), .long (lN (wo w))])) (k2 : Nat) (hk2 : k2 < N) (w2 : WT) (hg2 : g k2 = .inr (8, [.int (nI (wn w2)), .long (lN (sea (wd w2) (wn w2))), .int (nI (wf w2)), .int (nI (wh w2)), .long (lN (wo w2))])) (hkk : k ≠ k2) : Met l yX8_become (WS yX8_become cX8_become 2 none) (rmF 0 0) (PP [.ref (ad k), .ref (ad k2)] D cy ad N g) (QV (fun g1 => g1 k = .inr (8, [.int (nI (wn w2)), .long (lN (sea (wd w2) (wn w2))), .int (nI (wf w2)), .int (nI (wh w2)), .long (lN (wo w2))]) ∧ (∀ j, j ≠ k → g1 j = g j)) D ad N) 0 0 (AA ad N) :=
  c_X8_become l D cy ad N g hinj k hk _ _ _ _ _ hg k2 hk2 _ _ _ _ _ hg2 hkk
set_option maxHeartbeats 4000000 in
set_option maxRecDepth 100000 in
theorem c_X1_forget (l : Launch) (D : va_G) (cy : Nat → ClassId) (ad : Nat → Nat) (N : Nat) (g : Nat → va_E) (hinj : ∀ i j : Nat, i < N → j < N → ad i = ad j → i = j) (b : Nat) (hbN : b + 16 ≤ N) (nx0 : Nat) (un : Nat) (rf : Int32) (hg : g b = .inr (1, [.ref (ad (b + 1)), .ref (ad (b + 2)), .int (nI (nx0)), .int (nI (un)), .int rf])) (w : WT) (hgn : g (b + 1) = .inr (8, [.int (nI (wn w)), .long (lN (sea (wd w) (wn w))), .int (nI (wf w)), .int (nI (wh w)), .long (lN (wo w))])) (fa : Nat → Option Nat) (hga : g (b + 2) = .inl (cy 6, 13, .inr (.inr (.inr (.inr fa))))) (hfa : ∀ j, j < 13 → fa j = some (ad (b + 3 + j))) (Pw : Nat → WT) (hfam : (∀ j : Nat, j < 13 → g (b + 3 + j) = .inr (8, [.int (nI (wn (Pw j))), .long (lN (sea (wd (Pw j)) (wn (Pw j)))), .int (nI (wf (Pw j))), .int (nI (wh (Pw j))), .long (lN (wo (Pw j)))]))) (hnx : nx0 < 13) (hun : un ≤ 12) (hw : WOK w) (hPw : ∀ j, j < 13 → WOK (Pw j)) : Met l yX1_forget (WS yX1_forget cX1_forget 1 none) (rmF 0 0) (PP [.ref (ad b)] D cy ad N g) (QV (fun g1 => g1 b = .inr (1, [.ref (ad (b + 1)), .ref (ad (b + 2)), .int (nI (nx0)), .int (nI (0)), .int rf]) ∧ (∀ j, j ≠ b → g1 j = g j)) D ad N) 0 0 (AA ad N) := by
  refine mentry (by decide) (Nat.le_of_ble_eq_true rfl) (fun p e s m below meth c ls S hr hlk hnm hP hK hl => ?_)
  have S : CallFix p m c cX1_forget 1 s _ wsL_law RX1 := S
  have hx := S.1
  have hb := S.2.1
  have hl : lv_has ls 1 [(0, .ref (ad b))] := hl
  have hI : MD (AA ad N) ad N := MD.in hinj
  have hS : va_S (AA ad N) s.heap s.heap [] := va_S.rf
  have hfr : ∀ j : Nat, g j = g j := fun _ => rfl
  refine lv_aload_n hx hb dX1_forget_0 rfl (lv_at hl 0 rfl) ?_
  refine lv_iconst (v := nI (0)) hx hb dX1_forget_1 (by decide) ?_
  refine mp S hK hP hI hS (by omega) hg fd_X1_22 rfl rfl (Nat.le_of_ble_eq_true rfl) dX1_forget_2 (fun g_1 H locs eg_1 hP hS => ?_)
  have hb_1 : g_1 b = .inr (1, [.ref (ad (b + 1)), .ref (ad (b + 2)), .int (nI (nx0)), .int (nI (0)), .int rf]) := by rw [eg_1, va_up_self]; exact rfl
  have hb___1_1 : g_1 (b + 1) = .inr (8, [.int (nI (wn w)), .long (lN (sea (wd w) (wn w))), .int (nI (wf w)), .int (nI (wh w)), .long (lN (wo w))]) := ((congrFun eg_1 _).trans (va_up_ne _ _ (by omega))).trans hgn
  have hb___2_1 : g_1 (b + 2) = .inl (cy 6, 13, .inr (.inr (.inr (.inr fa)))) := ((congrFun eg_1 _).trans (va_up_ne _ _ (by omega))).trans hga
  have hfam_P_1 : (∀ j : Nat, j < 13 → g_1 (b + 3 + j) = .inr (8, [.int (nI (wn (Pw j))), .long (lN (sea (wd (Pw j)) (wn (Pw j)))), .int (nI (wf (Pw j))), .int (nI (wh (Pw j))), .long (lN (wo (Pw j)))])) := fun j hj => ((congrFun eg_1 _).trans (va_up_ne _ _ (by omega))).trans (hfam j hj)
  have hfr_1 : ∀ j : Nat, j ≠ b → g_1 j = g j := fun j n0 => ((congrFun eg_1 _).trans (va_up_ne _ _ n0)).trans (hfr j )
  exact rMv S hr hlk hP hS ⟨hb_1, hfr_1⟩ dX1_forget_5
set_option maxHeartbeats 4000000 in
set_option maxRecDepth 100000 in
theorem c_X1_rowAt (l : Launch) (D : va_G) (cy : Nat → ClassId) (ad : Nat → Nat) (N : Nat) (g : Nat → va_E) (b : Nat) (hbN : b + 16 ≤ N) (nx0 : Nat) (un : Nat) (rf : Int32) (hg : g b = .inr (1, [.ref (ad (b + 1)), .ref (ad (b + 2)), .int (nI (nx0)), .int (nI (un)), .int rf])) (w : WT) (hgn : g (b + 1) = .inr (8, [.int (nI (wn w)), .long (lN (sea (wd w) (wn w))), .int (nI (wf w)), .int (nI (wh w)), .long (lN (wo w))])) (fa : Nat → Option Nat) (hga : g (b + 2) = .inl (cy 6, 13, .inr (.inr (.inr (.inr fa))))) (hfa : ∀ j, j < 13 → fa j = some (ad (b + 3 + j))) (Pw : Nat → WT) (hfam : (∀ j : Nat, j < 13 → g (b + 3 + j) = .inr (8, [.int (nI (wn (Pw j))), .long (lN (sea (wd (Pw j)) (wn (Pw j)))), .int (nI (wf (Pw j))), .int (nI (wh (Pw j))), .long (lN (wo (Pw j)))]))) (hnx : nx0 < 13) (hun : un ≤ 12) (hw : WOK w) (hPw : ∀ j, j < 13 → WOK (Pw j)) (j0 : Nat) (hj0 : j0 < 13) : Met l yX1_rowAt (WS yX1_rowAt cX1_rowAt 2 (some (.object "BladeRing$Weave") )) (rmF 0 0) (PP [.ref (ad b), .int (nI (j0))] D cy ad N g) (sr_S (fun r => r = ad (b + 3 + j0))) 0 0 (fun _ => False) := by
  refine mentry (by decide) (Nat.le_of_ble_eq_true rfl) (fun p e s m below meth c ls S hr hlk hnm hP hK hl => ?_)
  have S : CallFix p m c cX1_rowAt 2 s _ wsL_law RX1 := S
  have hx := S.1
  have hb := S.2.1
  have hl : lv_has ls 2 [(0, .ref (ad b)), (1, .int (nI (j0)))] := hl
  refine lv_iload_n hx hb dX1_rowAt_0 rfl (lv_at hl 1 rfl) ?_
  refine lv_if_lt (tgt := 22) hx hb dX1_rowAt_1 (by decide) (fun c_1 => ?_) (fun c_1 => ?_)
  · skip
    have c_1 := (z_lt (by omega)).mp c_1
    exact c_1.elim
  · skip
    have c_1 := (not_congr (z_lt (by omega))).mp c_1
    refine lv_iload_n hx hb dX1_rowAt_4 rfl (lv_at hl 1 rfl) ?_
    refine lv_aload_n hx hb dX1_rowAt_5 rfl (lv_at hl 0 rfl) ?_
    refine mg S hK hP (by omega) hg fd_X1_18 rfl dX1_rowAt_6 ?_
    refine malen S hK hP (by omega) hga rfl (v := nI 13) rfl dX1_rowAt_9 ?_
    refine lv_icmp_ge (tgt := 22) hx hb dX1_rowAt_10 (by decide) (fun c_10 => ?_) (fun c_10 => ?_)
    · skip
      have c_10 := (nI_leI (by omega) (by omega)).mp c_10
      exact absurd c_10 (by omega)
    · skip
      have c_10 := (not_congr (nI_leI (by omega) (by omega))).mp c_10
      refine lv_aload_n hx hb dX1_rowAt_13 rfl (lv_at hl 0 rfl) ?_
      refine mg S hK hP (by omega) hg fd_X1_18 rfl dX1_rowAt_14 ?_
      refine lv_iload_n hx hb dX1_rowAt_17 rfl (lv_at hl 1 rfl) ?_
      refine mial7 S hK hP (by omega) hga rfl (vp_in_nI (by omega) (by omega)) (a := ad (b + 3 + j0)) ((congrArg fa (nI_clamp (by omega))).trans (hfa j0 hj0)) dX1_rowAt_18 ?_
      refine lv_goto (tgt := 26) hx hb dX1_rowAt_19 (by decide) ?_
      exact rSr S hr hlk rfl dX1_rowAt_26
set_option maxHeartbeats 4000000 in
set_option maxRecDepth 100000 in
theorem c_X1_attempt (l : Launch) (D : va_G) (cy : Nat → ClassId) (ad : Nat → Nat) (N : Nat) (g : Nat → va_E) (hinj : ∀ i j : Nat, i < N → j < N → ad i = ad j → i = j) (b : Nat) (hbN : b + 16 ≤ N) (nx0 : Nat) (un : Nat) (rf : Int32) (hg : g b = .inr (1, [.ref (ad (b + 1)), .ref (ad (b + 2)), .int (nI (nx0)), .int (nI (un)), .int rf])) (w : WT) (hgn : g (b + 1) = .inr (8, [.int (nI (wn w)), .long (lN (sea (wd w) (wn w))), .int (nI (wf w)), .int (nI (wh w)), .long (lN (wo w))])) (fa : Nat → Option Nat) (hga : g (b + 2) = .inl (cy 6, 13, .inr (.inr (.inr (.inr fa))))) (hfa : ∀ j, j < 13 → fa j = some (ad (b + 3 + j))) (Pw : Nat → WT) (hfam : (∀ j : Nat, j < 13 → g (b + 3 + j) = .inr (8, [.int (nI (wn (Pw j))), .long (lN (sea (wd (Pw j)) (wn (Pw j)))), .int (nI (wf (Pw j))), .int (nI (wh (Pw j))), .long (lN (wo (Pw j)))]))) (hnx : nx0 < 13) (hun : un ≤ 12) (hw : WOK w) (hPw : ∀ j, j < 13 → WOK (Pw j)) (s0 : Int32) (k0 : Int32) : Met l yX1_attempt (WS yX1_attempt cX1_attempt 4 (some .int)) (rmF 4 90) (PP [.ref (ad b), .int s0, .int k0] D cy ad N g) (QI (fun r g1 => (r = (chg w s0 k0).1) ∧ g1 b = .inr (1, [.ref (ad (b + 1)), .ref (ad (b + 2)), .int (nI ((if (chg w s0 k0).1 = 1 then (if nx0 + 1 < 13 then nx0 + 1 else 0) else nx0))), .int (nI ((if (chg w s0 k0).1 = 1 then (if un + 1 < 12 then un + 1 else 12) else un))), .int rf]) ∧ g1 (b + 1) = .inr (8, [.int (nI (wn ((chg w s0 k0).2))), .long (lN (sea (wd ((chg w s0 k0).2)) (wn ((chg w s0 k0).2)))), .int (nI (wf ((chg w s0 k0).2))), .int (nI (wh ((chg w s0 k0).2))), .long (lN (wo ((chg w s0 k0).2)))]) ∧ g1 (b + 2) = .inl (cy 6, 13, .inr (.inr (.inr (.inr fa)))) ∧ (∀ j : Nat, j < 13 → g1 (b + 3 + j) = .inr (8, [.int (nI (wn ((va_up Pw nx0 w) j))), .long (lN (sea (wd ((va_up Pw nx0 w) j)) (wn ((va_up Pw nx0 w) j)))), .int (nI (wf ((va_up Pw nx0 w) j))), .int (nI (wh ((va_up Pw nx0 w) j))), .long (lN (wo ((va_up Pw nx0 w) j)))])) ∧ (∀ j, (j < b ∨ b + 16 ≤ j) → g1 j = g j)) D ad N) 0 0 (AA ad N) := by
  refine mentry (by decide) (Nat.le_of_ble_eq_true rfl) (fun p e s m below meth c ls S hr hlk hnm hP hK hl => ?_)
  have S : CallFix p m c cX1_attempt 4 s _ wsL_law RX1 := S
  have hx := S.1
  have hb := S.2.1
  have hl : lv_has ls 4 [(0, .ref (ad b)), (1, .int s0), (2, .int k0)] := hl
  have hI : MD (AA ad N) ad N := MD.in hinj
  have hS : va_S (AA ad N) s.heap s.heap [] := va_S.rf
  have hfr : ∀ j : Nat, g j = g j := fun _ => rfl
  refine lv_aload_n hx hb dX1_attempt_0 rfl (lv_at hl 0 rfl) ?_
  refine lv_aload_n hx hb dX1_attempt_1 rfl (lv_at hl 0 rfl) ?_
  refine mg S hK hP (by omega) hg fd_X1_26 rfl dX1_attempt_2 ?_
  refine kVr (As := [.int (nI (nx0))]) (rest := []) S hK hP (c_X1_rowAt l D cy ad N g b (by omega) nx0 un rf hg w hgn fa hga hfa Pw hfam (by omega) (by omega) hw hPw nx0 (by omega)) cv_X1_29 (by omega) hg ⟨_, _, rfl⟩ ⟨rfl, rfl⟩ rfl hl.1 rfl (Nat.le_of_ble_eq_true rfl) ⟨Nat.zero_le _, Nat.zero_le _⟩ dX1_attempt_5 (fun r_5 q_5 => ?_)
  subst q_5
  have hfc_1 : g (b + 3 + nx0) = .inr (8, [.int (nI (wn (Pw nx0))), .long (lN (sea (wd (Pw nx0)) (wn (Pw nx0)))), .int (nI (wf (Pw nx0))), .int (nI (wh (Pw nx0))), .long (lN (wo (Pw nx0)))]) := hfam nx0 hnx
  refine lv_aload_n hx hb dX1_attempt_8 rfl (lv_at hl 0 rfl) ?_
  refine mg S hK hP (by omega) hg fd_X1_12 rfl dX1_attempt_9 ?_
  refine kMv (As := [.ref (ad (b + 1))]) (rest := []) S hK hP hS (fun _ h => h) (c_X8_becomeW l D cy ad N g hinj (b + 3 + nx0) (by omega) (Pw nx0) hfc_1 (b + 1) (by omega) w hgn (by omega)) cv_X1_33 (by omega) hfc_1 ⟨_, _, rfl⟩ ⟨rfl, rfl⟩ rfl hl.1 rfl (Nat.le_of_ble_eq_true rfl) ⟨Nat.zero_le _, Nat.zero_le _⟩ dX1_attempt_12 (fun g_2 H locs q_2 hP hS => ?_)
  obtain ⟨h_b___3___nx0__2, f_2⟩ := q_2
  have hb_2 : g_2 b = .inr (1, [.ref (ad (b + 1)), .ref (ad (b + 2)), .int (nI (nx0)), .int (nI (un)), .int rf]) := (f_2 b (by omega)).trans hg
  have hb___1_2 : g_2 (b + 1) = .inr (8, [.int (nI (wn w)), .long (lN (sea (wd w) (wn w))), .int (nI (wf w)), .int (nI (wh w)), .long (lN (wo w))]) := (f_2 (b + 1) (by omega)).trans hgn
  have hb___2_2 : g_2 (b + 2) = .inl (cy 6, 13, .inr (.inr (.inr (.inr fa)))) := (f_2 (b + 2) (by omega)).trans hga
  have hfam_P_2 : (∀ j : Nat, j < 13 → g_2 (b + 3 + j) = .inr (8, [.int (nI (wn ((va_up Pw nx0 w) j))), .long (lN (sea (wd ((va_up Pw nx0 w) j)) (wn ((va_up Pw nx0 w) j)))), .int (nI (wf ((va_up Pw nx0 w) j))), .int (nI (wh ((va_up Pw nx0 w) j))), .long (lN (wo ((va_up Pw nx0 w) j)))])) := fam_up (id := fun j => b + 3 + j) (cell := fun j w9 => .inr (8, [.int (nI (wn w9)), .long (lN (sea (wd w9) (wn w9))), .int (nI (wf w9)), .int (nI (wh w9)), .long (lN (wo w9))])) (fun j hj e => (f_2 (b + 3 + j) (by omega)).trans (hfam j hj)) h_b___3___nx0__2
  have hfr_2 : ∀ j : Nat, j ≠ (b + 3 + nx0) → g_2 j = g j := fun j n0 => (f_2 j n0).trans (hfr j )
  refine lv_aload_n hx hb dX1_attempt_15 rfl (lv_at hl 0 rfl) ?_
  refine mg S hK hP (by omega) hb_2 fd_X1_12 rfl dX1_attempt_16 ?_
  refine lv_iload_n hx hb dX1_attempt_19 rfl (lv_at hl 1 rfl) ?_
  refine lv_iload_n hx hb dX1_attempt_20 rfl (lv_at hl 2 rfl) ?_
  refine kMi (As := [.int s0, .int k0]) (rest := []) S hK hP hS (fun _ h => h) (c_X8_change l D cy ad N g_2 hinj (b + 1) (by omega) w hb___1_2 hw s0 k0) cv_X1_37 (by omega) hb___1_2 ⟨_, _, rfl⟩ ⟨rfl, rfl⟩ rfl hl.1 rfl (Nat.le_of_ble_eq_true rfl) ⟨Nat.zero_le _, Nat.zero_le _⟩ dX1_attempt_21 (fun r_21 g_3 H locs q_3 hP hS => ?_)
  obtain ⟨q_21, h_b___1__3, f_3⟩ := q_3
  subst q_21
  have hb_3 : g_3 b = .inr (1, [.ref (ad (b + 1)), .ref (ad (b + 2)), .int (nI (nx0)), .int (nI (un)), .int rf]) := (f_3 b (by omega)).trans hb_2
  have hb___2_3 : g_3 (b + 2) = .inl (cy 6, 13, .inr (.inr (.inr (.inr fa)))) := (f_3 (b + 2) (by omega)).trans hb___2_2
  have hb___3___nx0_3 : g_3 (b + 3 + nx0) = .inr (8, [.int (nI (wn w)), .long (lN (sea (wd w) (wn w))), .int (nI (wf w)), .int (nI (wh w)), .long (lN (wo w))]) := (f_3 (b + 3 + nx0) (by omega)).trans h_b___3___nx0__2
  have hfam_P_3 : (∀ j : Nat, j < 13 → g_3 (b + 3 + j) = .inr (8, [.int (nI (wn ((va_up Pw nx0 w) j))), .long (lN (sea (wd ((va_up Pw nx0 w) j)) (wn ((va_up Pw nx0 w) j)))), .int (nI (wf ((va_up Pw nx0 w) j))), .int (nI (wh ((va_up Pw nx0 w) j))), .long (lN (wo ((va_up Pw nx0 w) j)))])) := fun j hj => (f_3 (b + 3 + j) (by omega)).trans (hfam_P_2 j hj)
  have hfr_3 : ∀ j : Nat, j ≠ (b + 3 + nx0) → j ≠ (b + 1) → g_3 j = g j := fun j n0 n1 => (f_3 j n1).trans (hfr_2 j n0)
  refine lv_istore_n (lv' := [(3, .int ((chg w s0 k0).1)), (0, .ref (ad b)), (1, .int s0), (2, .int k0)]) hx hb dX1_attempt_24 rfl hl (by decide) rfl (fun ls hl => ?_)
  refine lv_iload_n hx hb dX1_attempt_25 rfl (lv_at hl 0 rfl) ?_
  refine lv_iconst (v := nI (1)) hx hb dX1_attempt_26 (by decide) ?_
  refine lv_icmp_ne (tgt := 73) hx hb dX1_attempt_27 (by decide) (fun c_27 => ?_) (fun c_27 => ?_)
  · skip
    refine lv_iload_n hx hb dX1_attempt_73 rfl (lv_at hl 0 rfl) ?_
    exact rMi S hr hlk hP hS ⟨rfl, (by first | (rw [if_pos (show (chg w s0 k0).1 = 1 from c_27), if_pos (show (chg w s0 k0).1 = 1 from c_27), ← hnn]; exact hb_3) | (rw [if_neg (show ¬ (chg w s0 k0).1 = 1 from c_27), if_neg (show ¬ (chg w s0 k0).1 = 1 from c_27)]; exact hb_3)), h_b___1__3, hb___2_3, hfam_P_3, (fun j n0 => hfr_3 j (by omega) (by omega))⟩ dX1_attempt_74
  · skip
    refine lv_aload_n hx hb dX1_attempt_30 rfl (lv_at hl 1 rfl) ?_
    refine lv_aload_n hx hb dX1_attempt_31 rfl (lv_at hl 1 rfl) ?_
    refine mg S hK hP (by omega) hb_3 fd_X1_26 rfl dX1_attempt_32 ?_
    refine lv_iconst (v := nI (1)) hx hb dX1_attempt_35 (by decide) ?_
    refine lv_iadd hx hb dX1_attempt_36 ?_
    refine tpi (nI_add nx0 1) ?_
    refine lv_aload_n hx hb dX1_attempt_37 rfl (lv_at hl 1 rfl) ?_
    refine mg S hK hP (by omega) hb_3 fd_X1_18 rfl dX1_attempt_38 ?_
    refine malen S hK hP (by omega) hb___2_3 rfl (v := nI 13) rfl dX1_attempt_41 ?_
    have J55 : ∀ (nn : Nat), (nn = if nx0 + 1 < 13 then nx0 + 1 else 0) → ∀ (ls : Array Slot), lv_has ls 4 [(3, .int ((chg w s0 k0).1)), (0, .ref (ad b)), (1, .int s0), (2, .int k0)] → W p l e (rmF 4 90) s m [.ref (ad b), .int s0, .int k0].toArray below meth c H locs 0 0 (MQ below (QI (fun r g1 => (r = (chg w s0 k0).1) ∧ g1 b = .inr (1, [.ref (ad (b + 1)), .ref (ad (b + 2)), .int (nI ((if (chg w s0 k0).1 = 1 then (if nx0 + 1 < 13 then nx0 + 1 else 0) else nx0))), .int (nI ((if (chg w s0 k0).1 = 1 then (if un + 1 < 12 then un + 1 else 12) else un))), .int rf]) ∧ g1 (b + 1) = .inr (8, [.int (nI (wn ((chg w s0 k0).2))), .long (lN (sea (wd ((chg w s0 k0).2)) (wn ((chg w s0 k0).2)))), .int (nI (wf ((chg w s0 k0).2))), .int (nI (wh ((chg w s0 k0).2))), .long (lN (wo ((chg w s0 k0).2)))]) ∧ g1 (b + 2) = .inl (cy 6, 13, .inr (.inr (.inr (.inr fa)))) ∧ (∀ j : Nat, j < 13 → g1 (b + 3 + j) = .inr (8, [.int (nI (wn ((va_up Pw nx0 w) j))), .long (lN (sea (wd ((va_up Pw nx0 w) j)) (wn ((va_up Pw nx0 w) j)))), .int (nI (wf ((va_up Pw nx0 w) j))), .int (nI (wh ((va_up Pw nx0 w) j))), .long (lN (wo ((va_up Pw nx0 w) j)))])) ∧ (∀ j, (j < b ∨ b + 16 ≤ j) → g1 j = g j)) D ad N) [.ref (ad b), .int s0, .int k0].toArray s 0 0 (AA ad N)) (F0 m 55 ls [.int (nI (nn)), .ref (ad b)]) := by
      intro nn hnn ls hl
      refine mp S hK hP hI hS (by omega) hb_3 fd_X1_26 rfl rfl (Nat.le_of_ble_eq_true rfl) dX1_attempt_55 (fun g_4 H locs eg_4 hP hS => ?_)
      have hb_4 : g_4 b = .inr (1, [.ref (ad (b + 1)), .ref (ad (b + 2)), .int (nI (nn)), .int (nI (un)), .int rf]) := by rw [eg_4, va_up_self]; exact rfl
      have hb___1_4 : g_4 (b + 1) = .inr (8, [.int (nI (wn ((chg w s0 k0).2))), .long (lN (sea (wd ((chg w s0 k0).2)) (wn ((chg w s0 k0).2)))), .int (nI (wf ((chg w s0 k0).2))), .int (nI (wh ((chg w s0 k0).2))), .long (lN (wo ((chg w s0 k0).2)))]) := ((congrFun eg_4 _).trans (va_up_ne _ _ (by omega))).trans h_b___1__3
      have hb___2_4 : g_4 (b + 2) = .inl (cy 6, 13, .inr (.inr (.inr (.inr fa)))) := ((congrFun eg_4 _).trans (va_up_ne _ _ (by omega))).trans hb___2_3
      have hb___3___nx0_4 : g_4 (b + 3 + nx0) = .inr (8, [.int (nI (wn w)), .long (lN (sea (wd w) (wn w))), .int (nI (wf w)), .int (nI (wh w)), .long (lN (wo w))]) := ((congrFun eg_4 _).trans (va_up_ne _ _ (by omega))).trans hb___3___nx0_3
      have hfam_P_4 : (∀ j : Nat, j < 13 → g_4 (b + 3 + j) = .inr (8, [.int (nI (wn ((va_up Pw nx0 w) j))), .long (lN (sea (wd ((va_up Pw nx0 w) j)) (wn ((va_up Pw nx0 w) j)))), .int (nI (wf ((va_up Pw nx0 w) j))), .int (nI (wh ((va_up Pw nx0 w) j))), .long (lN (wo ((va_up Pw nx0 w) j)))])) := fun j hj => ((congrFun eg_4 _).trans (va_up_ne _ _ (by omega))).trans (hfam_P_3 j hj)
      have hfr_4 : ∀ j : Nat, j ≠ (b + 3 + nx0) → j ≠ (b + 1) → j ≠ b → g_4 j = g j := fun j n0 n1 n2 => ((congrFun eg_4 _).trans (va_up_ne _ _ n2)).trans (hfr_3 j n0 n1)
      refine lv_aload_n hx hb dX1_attempt_58 rfl (lv_at hl 1 rfl) ?_
      refine lv_aload_n hx hb dX1_attempt_59 rfl (lv_at hl 1 rfl) ?_
      refine mg S hK hP (by omega) hb_4 fd_X1_22 rfl dX1_attempt_60 ?_
      refine lv_iconst (v := nI (1)) hx hb dX1_attempt_63 (by decide) ?_
      refine lv_iadd hx hb dX1_attempt_64 ?_
      refine tpi (nI_add un 1) ?_
      refine lv_bipush (v := nI (12)) hx hb dX1_attempt_65 (by decide) ?_
      refine va_mmin (rest := [.ref (ad b)]) hx hb (S.2.2.1.trans hl.1.symm) S.2.2.2.1 (S.2.2.2.2 _ m_X1_41) (S.2.2.2.2 _ mt_Lib_Math_min_name) (S.2.2.2.2 _ mn_java_lang_Math) (S.2.2.2.2 _ mc_Lib_Math_min_name) (Nat.le_of_ble_eq_true rfl) (Nat.le_of_ble_eq_true rfl) (Nat.zero_le _) (Nat.zero_le _) dX1_attempt_67 ?_
      refine tpi (min12 (by omega)) ?_
      refine mp S hK hP hI hS (by omega) hb_4 fd_X1_22 rfl rfl (Nat.le_of_ble_eq_true rfl) dX1_attempt_70 (fun g_5 H locs eg_5 hP hS => ?_)
      have hb_5 : g_5 b = .inr (1, [.ref (ad (b + 1)), .ref (ad (b + 2)), .int (nI (nn)), .int (nI (if un + 1 < 12 then un + 1 else 12)), .int rf]) := by rw [eg_5, va_up_self]; exact rfl
      have hb___1_5 : g_5 (b + 1) = .inr (8, [.int (nI (wn ((chg w s0 k0).2))), .long (lN (sea (wd ((chg w s0 k0).2)) (wn ((chg w s0 k0).2)))), .int (nI (wf ((chg w s0 k0).2))), .int (nI (wh ((chg w s0 k0).2))), .long (lN (wo ((chg w s0 k0).2)))]) := ((congrFun eg_5 _).trans (va_up_ne _ _ (by omega))).trans hb___1_4
      have hb___2_5 : g_5 (b + 2) = .inl (cy 6, 13, .inr (.inr (.inr (.inr fa)))) := ((congrFun eg_5 _).trans (va_up_ne _ _ (by omega))).trans hb___2_4
      have hb___3___nx0_5 : g_5 (b + 3 + nx0) = .inr (8, [.int (nI (wn w)), .long (lN (sea (wd w) (wn w))), .int (nI (wf w)), .int (nI (wh w)), .long (lN (wo w))]) := ((congrFun eg_5 _).trans (va_up_ne _ _ (by omega))).trans hb___3___nx0_4
      have hfam_P_5 : (∀ j : Nat, j < 13 → g_5 (b + 3 + j) = .inr (8, [.int (nI (wn ((va_up Pw nx0 w) j))), .long (lN (sea (wd ((va_up Pw nx0 w) j)) (wn ((va_up Pw nx0 w) j)))), .int (nI (wf ((va_up Pw nx0 w) j))), .int (nI (wh ((va_up Pw nx0 w) j))), .long (lN (wo ((va_up Pw nx0 w) j)))])) := fun j hj => ((congrFun eg_5 _).trans (va_up_ne _ _ (by omega))).trans (hfam_P_4 j hj)
      have hfr_5 : ∀ j : Nat, j ≠ (b + 3 + nx0) → j ≠ (b + 1) → j ≠ b → g_5 j = g j := fun j n0 n1 n2 => ((congrFun eg_5 _).trans (va_up_ne _ _ n2)).trans (hfr_4 j n0 n1 n2)
      refine lv_iload_n hx hb dX1_attempt_73 rfl (lv_at hl 0 rfl) ?_
      exact rMi S hr hlk hP hS ⟨rfl, (by first | (rw [if_pos (show (chg w s0 k0).1 = 1 from c_27), if_pos (show (chg w s0 k0).1 = 1 from c_27), ← hnn]; exact hb_5) | (rw [if_neg (show ¬ (chg w s0 k0).1 = 1 from c_27), if_neg (show ¬ (chg w s0 k0).1 = 1 from c_27)]; exact hb_5)), hb___1_5, hb___2_5, hfam_P_5, (fun j n0 => hfr_5 j (by omega) (by omega) (by omega))⟩ dX1_attempt_74
    refine lv_icmp_ge (tgt := 54) hx hb dX1_attempt_42 (by decide) (fun c_42 => ?_) (fun c_42 => ?_)
    · skip
      have c_42 := (nI_leI (by omega) (by omega)).mp c_42
      refine lv_iconst (v := nI (0)) hx hb dX1_attempt_54 (by decide) ?_
      exact J55 0 (if_neg (by omega)).symm _ (lv_sub hl [0, 1, 2, 3] rfl)
    · skip
      have c_42 := (not_congr (nI_leI (by omega) (by omega))).mp c_42
      refine lv_aload_n hx hb dX1_attempt_45 rfl (lv_at hl 1 rfl) ?_
      refine mg S hK hP (by omega) hb_3 fd_X1_26 rfl dX1_attempt_46 ?_
      refine lv_iconst (v := nI (1)) hx hb dX1_attempt_49 (by decide) ?_
      refine lv_iadd hx hb dX1_attempt_50 ?_
      refine tpi (nI_add nx0 1) ?_
      refine lv_goto (tgt := 55) hx hb dX1_attempt_51 (by decide) ?_
      exact J55 (nx0 + 1) (if_pos (by omega)).symm _ (lv_sub hl [0, 1, 2, 3] rfl)
set_option maxHeartbeats 4000000 in
set_option maxRecDepth 100000 in
theorem c_X1_sortBack (l : Launch) (D : va_G) (cy : Nat → ClassId) (ad : Nat → Nat) (N : Nat) (g : Nat → va_E) (k : Nat) (S1 : Nat) (hS1 : S1 < 8) : Met l yX1_sortBack (WS yX1_sortBack cX1_sortBack 2 (some .int)) (rmF 0 0) (PP [.ref (ad k), .int (nI (S1))] D cy ad N g) (vp_Si (fun r => r = nI (sbk S1))) 0 0 (fun _ => False) := by
  refine mentry (by decide) (Nat.le_of_ble_eq_true rfl) (fun p e s m below meth c ls S hr hlk hnm hP hK hl => ?_)
  have S : CallFix p m c cX1_sortBack 2 s _ wsL_law RX1 := S
  have hx := S.1
  have hb := S.2.1
  have hl : lv_has ls 2 [(0, .ref (ad k)), (1, .int (nI (S1)))] := hl
  refine lv_iload_n hx hb dX1_sortBack_0 rfl (lv_at hl 1 rfl) ?_
  refine lv_if_ne (tgt := 8) hx hb dX1_sortBack_1 (by decide) (fun c_1 => ?_) (fun c_1 => ?_)
  · skip
    have c_1 := (not_congr (z_eq (by omega))).mp c_1
    refine lv_iload_n hx hb dX1_sortBack_8 rfl (lv_at hl 1 rfl) ?_
    refine lv_iconst (v := nI (1)) hx hb dX1_sortBack_9 (by decide) ?_
    refine lv_icmp_ne (tgt := 17) hx hb dX1_sortBack_10 (by decide) (fun c_10 => ?_) (fun c_10 => ?_)
    · skip
      have c_10 := (not_congr (nI_eq (by omega) (by omega))).mp c_10
      refine lv_iload_n hx hb dX1_sortBack_17 rfl (lv_at hl 1 rfl) ?_
      exact rSi S hr hlk (by show _ = nI (sbk S1); rw [sbk]; first | rw [if_pos c_1] | rw [if_neg c_1, if_pos c_10] | rw [if_neg c_1, if_neg c_10]) dX1_sortBack_18
    · skip
      have c_10 := (nI_eq (by omega) (by omega)).mp c_10
      refine lv_iconst (v := nI (0)) hx hb dX1_sortBack_13 (by decide) ?_
      refine lv_goto (tgt := 18) hx hb dX1_sortBack_14 (by decide) ?_
      exact rSi S hr hlk (by show _ = nI (sbk S1); rw [sbk]; first | rw [if_pos c_1] | rw [if_neg c_1, if_pos c_10] | rw [if_neg c_1, if_neg c_10]) dX1_sortBack_18
  · skip
    have c_1 := (z_eq (by omega)).mp c_1
    refine lv_iconst (v := nI (1)) hx hb dX1_sortBack_4 (by decide) ?_
    refine lv_goto (tgt := 18) hx hb dX1_sortBack_5 (by decide) ?_
    exact rSi S hr hlk (by show _ = nI (sbk S1); rw [sbk]; first | rw [if_pos c_1] | rw [if_neg c_1, if_pos c_10] | rw [if_neg c_1, if_neg c_10]) dX1_sortBack_18
set_option maxHeartbeats 4000000 in
set_option maxRecDepth 100000 in
theorem c_X1_numberBack (l : Launch) (D : va_G) (cy : Nat → ClassId) (ad : Nat → Nat) (N : Nat) (g : Nat → va_E) (b : Nat) (hbN : b + 16 ≤ N) (nx0 : Nat) (un : Nat) (rf : Int32) (hg : g b = .inr (1, [.ref (ad (b + 1)), .ref (ad (b + 2)), .int (nI (nx0)), .int (nI (un)), .int rf])) (w : WT) (hgn : g (b + 1) = .inr (8, [.int (nI (wn w)), .long (lN (sea (wd w) (wn w))), .int (nI (wf w)), .int (nI (wh w)), .long (lN (wo w))])) (fa : Nat → Option Nat) (hga : g (b + 2) = .inl (cy 6, 13, .inr (.inr (.inr (.inr fa))))) (hfa : ∀ j, j < 13 → fa j = some (ad (b + 3 + j))) (Pw : Nat → WT) (hfam : (∀ j : Nat, j < 13 → g (b + 3 + j) = .inr (8, [.int (nI (wn (Pw j))), .long (lN (sea (wd (Pw j)) (wn (Pw j)))), .int (nI (wf (Pw j))), .int (nI (wh (Pw j))), .long (lN (wo (Pw j)))]))) (hnx : nx0 < 13) (hun : un ≤ 12) (hw : WOK w) (hPw : ∀ j, j < 13 → WOK (Pw j)) (S1 : Nat) (hS1 : S1 < 8) (K1 : Nat) (hKn : K1 < 8) : Met l yX1_numberBack (WS yX1_numberBack cX1_numberBack 3 (some .int)) (rmF 1 21) (PP [.ref (ad b), .int (nI (S1)), .int (nI (K1))] D cy ad N g) (vp_Si (fun r => r = nI (nbk (wn w) S1 K1))) 0 0 (fun _ => False) := by
  refine mentry (by decide) (Nat.le_of_ble_eq_true rfl) (fun p e s m below meth c ls S hr hlk hnm hP hK hl => ?_)
  have S : CallFix p m c cX1_numberBack 3 s _ wsL_law RX1 := S
  have hx := S.1
  have hb := S.2.1
  have hl : lv_has ls 3 [(0, .ref (ad b)), (1, .int (nI (S1))), (2, .int (nI (K1)))] := hl
  have hn4 := hw.1.1
  have hn8 := hw.1.2
  have hwr := wr_le (K := K1) hn4 hKn
  refine lv_iload_n hx hb dX1_numberBack_0 rfl (lv_at hl 1 rfl) ?_
  refine lv_iconst (v := nI (3)) hx hb dX1_numberBack_1 (by decide) ?_
  refine lv_icmp_ne (tgt := 31) hx hb dX1_numberBack_2 (by decide) (fun c_2 => ?_) (fun c_2 => ?_)
  · skip
    have c_2 := (not_congr (nI_eq (by omega) (by omega))).mp c_2
    refine lv_iload_n hx hb dX1_numberBack_31 rfl (lv_at hl 2 rfl) ?_
    exact rSi S hr hlk (by show _ = nI (nbk _ S1 K1); rw [nbk]; first | rw [if_pos c_2] | rw [if_neg c_2]) dX1_numberBack_32
  · skip
    have c_2 := (nI_eq (by omega) (by omega)).mp c_2
    refine lv_aload_n hx hb dX1_numberBack_5 rfl (lv_at hl 0 rfl) ?_
    refine mg S hK hP (by omega) hg fd_X1_12 rfl dX1_numberBack_6 ?_
    refine lv_aload_n hx hb dX1_numberBack_9 rfl (lv_at hl 0 rfl) ?_
    refine mg S hK hP (by omega) hg fd_X1_12 rfl dX1_numberBack_10 ?_
    refine mg S hK hP (by omega) hgn fd_X1_70 rfl dX1_numberBack_13 ?_
    refine lv_aload_n hx hb dX1_numberBack_16 rfl (lv_at hl 0 rfl) ?_
    refine mg S hK hP (by omega) hg fd_X1_12 rfl dX1_numberBack_17 ?_
    refine lv_iload_n hx hb dX1_numberBack_20 rfl (lv_at hl 2 rfl) ?_
    refine kVi (As := [.int (nI (K1))]) (rest := [.int (nI (wn w)), .ref (ad (b + 1))]) S hK hP (c_X8_withinRing l D cy ad N g (b + 1) (by omega) (wn w) (wd w) (wf w) (wh w) (wo w) hgn hn4 hn8 K1 (by omega)) cv_X1_73 (by omega) hgn ⟨_, _, rfl⟩ ⟨rfl, rfl⟩ rfl hl.1 rfl (Nat.le_of_ble_eq_true rfl) ⟨Nat.zero_le _, Nat.zero_le _⟩ dX1_numberBack_21 (fun r_21 q_21 => ?_)
    subst q_21
    refine lv_isub hx hb dX1_numberBack_24 ?_
    refine tpi (pk_sub (a := wn w) (b := wr (wn w) K1) (by omega)) ?_
    refine kVi (As := [.int (nI (wn w - (wr (wn w) K1)))]) (rest := []) S hK hP (c_X8_withinRing l D cy ad N g (b + 1) (by omega) (wn w) (wd w) (wf w) (wh w) (wo w) hgn hn4 hn8 (wn w - (wr (wn w) K1)) (by omega)) cv_X1_73 (by omega) hgn ⟨_, _, rfl⟩ ⟨rfl, rfl⟩ rfl hl.1 rfl (Nat.le_of_ble_eq_true rfl) ⟨Nat.zero_le _, Nat.zero_le _⟩ dX1_numberBack_25 (fun r_25 q_25 => ?_)
    subst q_25
    refine lv_goto (tgt := 32) hx hb dX1_numberBack_28 (by decide) ?_
    exact rSi S hr hlk (by show _ = nI (nbk _ S1 K1); rw [nbk]; first | rw [if_pos c_2] | rw [if_neg c_2]) dX1_numberBack_32


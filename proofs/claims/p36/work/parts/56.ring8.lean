set_option maxHeartbeats 4000000 in
set_option maxRecDepth 100000 in
theorem c_X9_doneOnFloor (l : Launch) (D : va_G) (cy : Nat → ClassId) (ad : Nat → Nat) (N : Nat) (g : Nat → va_E) (hinj : ∀ i j : Nat, i < N → j < N → ad i = ad j → i = j) (hN : 114 ≤ N) (qc : Nat) (fc : Nat) (lf : Int32) (lt : Int32) (vc : Nat) (hX : g 0 = .inr (9, [.ref (ad 1), .ref (ad 17), .ref (ad 33), .ref (ad 34), .int (nI (qc)), .ref (ad 35), .ref (ad 45), .ref (ad 47), .ref (ad 52), .int (nI (fc)), .int lf, .int lt, .ref (ad 53), .int (nI (vc)), .ref (ad 54), .ref (ad 75)])) (nx0 : Nat) (un : Nat) (rf : Int32) (hg : g 1 = .inr (1, [.ref (ad (1 + 1)), .ref (ad (1 + 2)), .int (nI (nx0)), .int (nI (un)), .int rf])) (w : WT) (hgn : g (1 + 1) = .inr (8, [.int (nI (wn w)), .long (lN (sea (wd w) (wn w))), .int (nI (wf w)), .int (nI (wh w)), .long (lN (wo w))])) (fa : Nat → Option Nat) (hga : g (1 + 2) = .inl (cy 6, 13, .inr (.inr (.inr (.inr fa))))) (hfa : ∀ j, j < 13 → fa j = some (ad (1 + 3 + j))) (Pw : Nat → WT) (hfam : (∀ j : Nat, j < 13 → g (1 + 3 + j) = .inr (8, [.int (nI (wn (Pw j))), .long (lN (sea (wd (Pw j)) (wn (Pw j)))), .int (nI (wf (Pw j))), .int (nI (wh (Pw j))), .long (lN (wo (Pw j)))]))) (hnx : nx0 < 13) (hun : un ≤ 12) (hw : WOK w) (hPw : ∀ j, j < 13 → WOK (Pw j)) (kf : Nat) (hkf : kf < N) (kfb : Nat) (hkfb : kfb < N) (len : Nat) (B : Nat → Nat) (hgf : g kf = .inr (0, [.ref (ad kfb), .int (nI (len))])) (hgfb : g kfb = .inl (cy 0, 200, .inl (fun x9 => nI (B x9)))) (hkk : kf ≠ kfb) (hlen : len ≤ 200) (hB : ∀ i, B i < 64) (hko : (kf = kf ∧ 17 ≤ kf) ∧ 17 ≤ kfb) (b0 : Nat) (hb0 : b0 < 2) : Met l yX9_doneOnFloor (WS yX9_doneOnFloor cX9_doneOnFloor 4 (some .int)) (rmF 6 140) (PP [.ref (ad 0), .ref (ad kf), .int (nI (b0))] D cy ad N g) (QI (fun r g1 => (r = dnF (rn B len b0 (w, Pw, nx0, un) len)) ∧ g1 0 = .inr (9, [.ref (ad 1), .ref (ad 17), .ref (ad 33), .ref (ad 34), .int (nI (qc)), .ref (ad 35), .ref (ad 45), .ref (ad 47), .ref (ad 52), .int (nI (fc)), .int lf, .int ((rn B len b0 (w, Pw, nx0, un) len).2.1), .ref (ad 53), .int (nI (vc)), .ref (ad 54), .ref (ad 75)]) ∧ g1 1 = .inr (1, [.ref (ad (1 + 1)), .ref (ad (1 + 2)), .int (nI ((rn B len b0 (w, Pw, nx0, un) len).2.2.2.2.1)), .int (nI ((rn B len b0 (w, Pw, nx0, un) len).2.2.2.2.2)), .int ((rn B len b0 (w, Pw, nx0, un) len).2.1)]) ∧ g1 (1 + 1) = .inr (8, [.int (nI (wn ((rn B len b0 (w, Pw, nx0, un) len).2.2.1))), .long (lN (sea (wd ((rn B len b0 (w, Pw, nx0, un) len).2.2.1)) (wn ((rn B len b0 (w, Pw, nx0, un) len).2.2.1)))), .int (nI (wf ((rn B len b0 (w, Pw, nx0, un) len).2.2.1))), .int (nI (wh ((rn B len b0 (w, Pw, nx0, un) len).2.2.1))), .long (lN (wo ((rn B len b0 (w, Pw, nx0, un) len).2.2.1)))]) ∧ g1 (1 + 2) = .inl (cy 6, 13, .inr (.inr (.inr (.inr fa)))) ∧ (∀ j : Nat, j < 13 → g1 (1 + 3 + j) = .inr (8, [.int (nI (wn (((rn B len b0 (w, Pw, nx0, un) len).2.2.2.1) j))), .long (lN (sea (wd (((rn B len b0 (w, Pw, nx0, un) len).2.2.2.1) j)) (wn (((rn B len b0 (w, Pw, nx0, un) len).2.2.2.1) j)))), .int (nI (wf (((rn B len b0 (w, Pw, nx0, un) len).2.2.2.1) j))), .int (nI (wh (((rn B len b0 (w, Pw, nx0, un) len).2.2.2.1) j))), .long (lN (wo (((rn B len b0 (w, Pw, nx0, un) len).2.2.2.1) j)))])) ∧ (∀ j, (j < 0 ∨ 17 ≤ j) → g1 j = g j)) D ad N) 0 0 (AA ad N) := by
  refine mentry (by decide) (Nat.le_of_ble_eq_true rfl) (fun p e s m below meth c ls S hr hlk hnm hP hK hl => ?_)
  have S : CallFix p m c cX9_doneOnFloor 4 s _ wsL_law RX9 := S
  have hx := S.1
  have hb := S.2.1
  have hl : lv_has ls 4 [(0, .ref (ad 0)), (1, .ref (ad kf)), (2, .int (nI (b0)))] := hl
  have hI : MD (AA ad N) ad N := MD.in hinj
  have hS : va_S (AA ad N) s.heap s.heap [] := va_S.rf
  have hfr : ∀ j : Nat, g j = g j := fun _ => rfl
  refine lv_aload_n hx hb dX9_doneOnFloor_0 rfl (lv_at hl 0 rfl) ?_
  refine mg S hK hP (by omega) hX fd_X9_10 rfl dX9_doneOnFloor_1 ?_
  refine lv_aload_n hx hb dX9_doneOnFloor_4 rfl (lv_at hl 1 rfl) ?_
  refine lv_iload_n hx hb dX9_doneOnFloor_5 rfl (lv_at hl 2 rfl) ?_
  refine kMi (As := [.ref (ad kf), .int (nI (b0))]) (rest := []) S hK hP hS (fun _ h => h) (c_X1_run l D cy ad N g hinj 1 (by omega) nx0 un rf hg w hgn fa hga hfa Pw hfam (by omega) (by omega) hw hPw kf hkf kfb hkfb len B hgf hgfb hkk hlen hB (by omega) b0 (by omega)) cv_X9_221 (by omega) hg ⟨_, _, rfl⟩ ⟨rfl, rfl⟩ rfl hl.1 rfl (Nat.le_of_ble_eq_true rfl) ⟨Nat.zero_le _, Nat.zero_le _⟩ dX9_doneOnFloor_6 (fun r_6 g_1 H locs q_1 hP hS => ?_)
  obtain ⟨q_6, h1_1, h1___1_1, h1___2_1, hfam_P_1, f_1⟩ := q_1
  subst q_6
  have h0_1 : g_1 0 = .inr (9, [.ref (ad 1), .ref (ad 17), .ref (ad 33), .ref (ad 34), .int (nI (qc)), .ref (ad 35), .ref (ad 45), .ref (ad 47), .ref (ad 52), .int (nI (fc)), .int lf, .int lt, .ref (ad 53), .int (nI (vc)), .ref (ad 54), .ref (ad 75)]) := (f_1 0 (by omega)).trans hX
  have hkf_1 : g_1 kf = .inr (0, [.ref (ad kfb), .int (nI (len))]) := (f_1 kf (by omega)).trans hgf
  have hkfb_1 : g_1 kfb = .inl (cy 0, 200, .inl (fun x9 => nI (B x9))) := (f_1 kfb (by omega)).trans hgfb
  have hfr_1 : ∀ j : Nat, (j < 1 ∨ 1 + 16 ≤ j) → g_1 j = g j := fun j n0 => (f_1 j n0).trans (hfr j )
  refine lv_istore_n (lv' := [(3, .int (nI ((rn B len b0 (w, Pw, nx0, un) len).1))), (0, .ref (ad 0)), (1, .ref (ad kf)), (2, .int (nI (b0)))]) hx hb dX9_doneOnFloor_9 rfl hl (by decide) rfl (fun ls hl => ?_)
  refine lv_aload_n hx hb dX9_doneOnFloor_10 rfl (lv_at hl 1 rfl) ?_
  refine lv_aload_n hx hb dX9_doneOnFloor_11 rfl (lv_at hl 1 rfl) ?_
  refine mg S hK hP (by omega) h0_1 fd_X9_10 rfl dX9_doneOnFloor_12 ?_
  refine mg S hK hP (by omega) h1_1 fd_X9_224 rfl dX9_doneOnFloor_15 ?_
  refine mp S hK hP hI hS (by omega) h0_1 fd_X9_218 rfl rfl (Nat.le_of_ble_eq_true rfl) dX9_doneOnFloor_18 (fun g_2 H locs eg_2 hP hS => ?_)
  have h0_2 : g_2 0 = .inr (9, [.ref (ad 1), .ref (ad 17), .ref (ad 33), .ref (ad 34), .int (nI (qc)), .ref (ad 35), .ref (ad 45), .ref (ad 47), .ref (ad 52), .int (nI (fc)), .int lf, .int ((rn B len b0 (w, Pw, nx0, un) len).2.1), .ref (ad 53), .int (nI (vc)), .ref (ad 54), .ref (ad 75)]) := by rw [eg_2, va_up_self]; exact rfl
  have h1_2 : g_2 1 = .inr (1, [.ref (ad (1 + 1)), .ref (ad (1 + 2)), .int (nI ((rn B len b0 (w, Pw, nx0, un) len).2.2.2.2.1)), .int (nI ((rn B len b0 (w, Pw, nx0, un) len).2.2.2.2.2)), .int ((rn B len b0 (w, Pw, nx0, un) len).2.1)]) := ((congrFun eg_2 _).trans (va_up_ne _ _ (by omega))).trans h1_1
  have h1___1_2 : g_2 (1 + 1) = .inr (8, [.int (nI (wn ((rn B len b0 (w, Pw, nx0, un) len).2.2.1))), .long (lN (sea (wd ((rn B len b0 (w, Pw, nx0, un) len).2.2.1)) (wn ((rn B len b0 (w, Pw, nx0, un) len).2.2.1)))), .int (nI (wf ((rn B len b0 (w, Pw, nx0, un) len).2.2.1))), .int (nI (wh ((rn B len b0 (w, Pw, nx0, un) len).2.2.1))), .long (lN (wo ((rn B len b0 (w, Pw, nx0, un) len).2.2.1)))]) := ((congrFun eg_2 _).trans (va_up_ne _ _ (by omega))).trans h1___1_1
  have h1___2_2 : g_2 (1 + 2) = .inl (cy 6, 13, .inr (.inr (.inr (.inr fa)))) := ((congrFun eg_2 _).trans (va_up_ne _ _ (by omega))).trans h1___2_1
  have hkf_2 : g_2 kf = .inr (0, [.ref (ad kfb), .int (nI (len))]) := ((congrFun eg_2 _).trans (va_up_ne _ _ (by omega))).trans hkf_1
  have hkfb_2 : g_2 kfb = .inl (cy 0, 200, .inl (fun x9 => nI (B x9))) := ((congrFun eg_2 _).trans (va_up_ne _ _ (by omega))).trans hkfb_1
  have hfam_P_2 : (∀ j : Nat, j < 13 → g_2 (1 + 3 + j) = .inr (8, [.int (nI (wn (((rn B len b0 (w, Pw, nx0, un) len).2.2.2.1) j))), .long (lN (sea (wd (((rn B len b0 (w, Pw, nx0, un) len).2.2.2.1) j)) (wn (((rn B len b0 (w, Pw, nx0, un) len).2.2.2.1) j)))), .int (nI (wf (((rn B len b0 (w, Pw, nx0, un) len).2.2.2.1) j))), .int (nI (wh (((rn B len b0 (w, Pw, nx0, un) len).2.2.2.1) j))), .long (lN (wo (((rn B len b0 (w, Pw, nx0, un) len).2.2.2.1) j)))])) := fun j hj => ((congrFun eg_2 _).trans (va_up_ne _ _ (by omega))).trans (hfam_P_1 j hj)
  have hfr_2 : ∀ j : Nat, (j < 1 ∨ 1 + 16 ≤ j) → j ≠ 0 → g_2 j = g j := fun j n0 n1 => ((congrFun eg_2 _).trans (va_up_ne _ _ n1)).trans (hfr_1 j n0)
  refine lv_aload_n hx hb dX9_doneOnFloor_21 rfl (lv_at hl 1 rfl) ?_
  refine mg S hK hP (by omega) h0_2 fd_X9_218 rfl dX9_doneOnFloor_22 ?_
  refine lv_if_ne (tgt := 32) hx hb dX9_doneOnFloor_25 (by decide) (fun c_25 => ?_) (fun c_25 => ?_)
  · skip
    refine lv_bipush (v := (-100)) hx hb dX9_doneOnFloor_32 (by decide) ?_
    refine lv_iload_n hx hb dX9_doneOnFloor_34 rfl (lv_at hl 0 rfl) ?_
    refine lv_isub hx hb dX9_doneOnFloor_35 ?_
    exact rMi S hr hlk hP hS ⟨(by unfold dnF; first | rw [if_pos c_25] | rw [if_neg c_25]), h0_2, h1_2, h1___1_2, h1___2_2, hfam_P_2, (fun j n0 => hfr_2 j (by omega) (by omega))⟩ dX9_doneOnFloor_36
  · skip
    refine lv_iload_n hx hb dX9_doneOnFloor_28 rfl (lv_at hl 0 rfl) ?_
    refine lv_goto (tgt := 36) hx hb dX9_doneOnFloor_29 (by decide) ?_
    exact rMi S hr hlk hP hS ⟨(by unfold dnF; first | rw [if_pos c_25] | rw [if_neg c_25]), h0_2, h1_2, h1___1_2, h1___2_2, hfam_P_2, (fun j n0 => hfr_2 j (by omega) (by omega))⟩ dX9_doneOnFloor_36
set_option maxHeartbeats 4000000 in
set_option maxRecDepth 100000 in
theorem c_X9_dance (l : Launch) (D : va_G) (cy : Nat → ClassId) (ad : Nat → Nat) (N : Nat) (g : Nat → va_E) (hinj : ∀ i j : Nat, i < N → j < N → ad i = ad j → i = j) (hN : 114 ≤ N) (qc : Nat) (fc : Nat) (lf : Int32) (lt : Int32) (vc : Nat) (hX : g 0 = .inr (9, [.ref (ad 1), .ref (ad 17), .ref (ad 33), .ref (ad 34), .int (nI (qc)), .ref (ad 35), .ref (ad 45), .ref (ad 47), .ref (ad 52), .int (nI (fc)), .int lf, .int lt, .ref (ad 53), .int (nI (vc)), .ref (ad 54), .ref (ad 75)])) (nx0 : Nat) (un : Nat) (rf : Int32) (hg : g 1 = .inr (1, [.ref (ad (1 + 1)), .ref (ad (1 + 2)), .int (nI (nx0)), .int (nI (un)), .int rf])) (w : WT) (hgn : g (1 + 1) = .inr (8, [.int (nI (wn w)), .long (lN (sea (wd w) (wn w))), .int (nI (wf w)), .int (nI (wh w)), .long (lN (wo w))])) (fa : Nat → Option Nat) (hga : g (1 + 2) = .inl (cy 6, 13, .inr (.inr (.inr (.inr fa))))) (hfa : ∀ j, j < 13 → fa j = some (ad (1 + 3 + j))) (Pw : Nat → WT) (hfam : (∀ j : Nat, j < 13 → g (1 + 3 + j) = .inr (8, [.int (nI (wn (Pw j))), .long (lN (sea (wd (Pw j)) (wn (Pw j)))), .int (nI (wf (Pw j))), .int (nI (wh (Pw j))), .long (lN (wo (Pw j)))]))) (hnx : nx0 < 13) (hun : un ≤ 12) (hw : WOK w) (hPw : ∀ j, j < 13 → WOK (Pw j)) (ff : Nat → Option Nat) (hff : g 52 = .inl (cy 3, 8, .inr (.inr (.inr (.inr ff))))) (hfc : fc ≤ 8) (hfj : ∀ j, j < 8 → ff j = some (ad (82 + 2 * j))) (Fl : Nat → Nat) (hFo : (∀ j : Nat, j < 8 → g (82 + 2 * j) = .inr (0, [.ref (ad (82 + 2 * j + 1)), .int (nI (Fl j))]))) (hFl : ∀ j, Fl j ≤ 200) (FB : Nat → Nat → Nat) (hFb : (∀ j : Nat, j < 8 → g (82 + 2 * j + 1) = .inl (cy 0, 200, .inl (fun x9 => nI ((FB j) x9))))) (hFB : ∀ j i, FB j i < 64) (x0 : Int32) : Met l yX9_dance (WS yX9_dance cX9_dance 2 (some .int)) (rmF 7 163) (PP [.ref (ad 0), .int x0] D cy ad N g) (QI (fun r g1 => (r = if isI x0 fc then dnF (rn (FB x0.toNatClampNeg) (Fl x0.toNatClampNeg) 0 (w, Pw, nx0, un) (Fl x0.toNatClampNeg)) else -1) ∧ g1 0 = .inr (9, [.ref (ad 1), .ref (ad 17), .ref (ad 33), .ref (ad 34), .int (nI (qc)), .ref (ad 35), .ref (ad 45), .ref (ad 47), .ref (ad 52), .int (nI (fc)), .int lf, .int ((if isI x0 fc then (rn (FB x0.toNatClampNeg) (Fl x0.toNatClampNeg) 0 (w, Pw, nx0, un) (Fl x0.toNatClampNeg)).2.1 else lt)), .ref (ad 53), .int (nI (vc)), .ref (ad 54), .ref (ad 75)]) ∧ g1 1 = .inr (1, [.ref (ad (1 + 1)), .ref (ad (1 + 2)), .int (nI ((if isI x0 fc then (rn (FB x0.toNatClampNeg) (Fl x0.toNatClampNeg) 0 (w, Pw, nx0, un) (Fl x0.toNatClampNeg)).2.2.2.2.1 else nx0))), .int (nI ((if isI x0 fc then (rn (FB x0.toNatClampNeg) (Fl x0.toNatClampNeg) 0 (w, Pw, nx0, un) (Fl x0.toNatClampNeg)).2.2.2.2.2 else un))), .int ((if isI x0 fc then (rn (FB x0.toNatClampNeg) (Fl x0.toNatClampNeg) 0 (w, Pw, nx0, un) (Fl x0.toNatClampNeg)).2.1 else rf))]) ∧ g1 (1 + 1) = .inr (8, [.int (nI (wn ((if isI x0 fc then (rn (FB x0.toNatClampNeg) (Fl x0.toNatClampNeg) 0 (w, Pw, nx0, un) (Fl x0.toNatClampNeg)).2.2.1 else w)))), .long (lN (sea (wd ((if isI x0 fc then (rn (FB x0.toNatClampNeg) (Fl x0.toNatClampNeg) 0 (w, Pw, nx0, un) (Fl x0.toNatClampNeg)).2.2.1 else w))) (wn ((if isI x0 fc then (rn (FB x0.toNatClampNeg) (Fl x0.toNatClampNeg) 0 (w, Pw, nx0, un) (Fl x0.toNatClampNeg)).2.2.1 else w))))), .int (nI (wf ((if isI x0 fc then (rn (FB x0.toNatClampNeg) (Fl x0.toNatClampNeg) 0 (w, Pw, nx0, un) (Fl x0.toNatClampNeg)).2.2.1 else w)))), .int (nI (wh ((if isI x0 fc then (rn (FB x0.toNatClampNeg) (Fl x0.toNatClampNeg) 0 (w, Pw, nx0, un) (Fl x0.toNatClampNeg)).2.2.1 else w)))), .long (lN (wo ((if isI x0 fc then (rn (FB x0.toNatClampNeg) (Fl x0.toNatClampNeg) 0 (w, Pw, nx0, un) (Fl x0.toNatClampNeg)).2.2.1 else w))))]) ∧ g1 (1 + 2) = .inl (cy 6, 13, .inr (.inr (.inr (.inr fa)))) ∧ (∀ j : Nat, j < 13 → g1 (1 + 3 + j) = .inr (8, [.int (nI (wn (((if isI x0 fc then (rn (FB x0.toNatClampNeg) (Fl x0.toNatClampNeg) 0 (w, Pw, nx0, un) (Fl x0.toNatClampNeg)).2.2.2.1 else Pw)) j))), .long (lN (sea (wd (((if isI x0 fc then (rn (FB x0.toNatClampNeg) (Fl x0.toNatClampNeg) 0 (w, Pw, nx0, un) (Fl x0.toNatClampNeg)).2.2.2.1 else Pw)) j)) (wn (((if isI x0 fc then (rn (FB x0.toNatClampNeg) (Fl x0.toNatClampNeg) 0 (w, Pw, nx0, un) (Fl x0.toNatClampNeg)).2.2.2.1 else Pw)) j)))), .int (nI (wf (((if isI x0 fc then (rn (FB x0.toNatClampNeg) (Fl x0.toNatClampNeg) 0 (w, Pw, nx0, un) (Fl x0.toNatClampNeg)).2.2.2.1 else Pw)) j))), .int (nI (wh (((if isI x0 fc then (rn (FB x0.toNatClampNeg) (Fl x0.toNatClampNeg) 0 (w, Pw, nx0, un) (Fl x0.toNatClampNeg)).2.2.2.1 else Pw)) j))), .long (lN (wo (((if isI x0 fc then (rn (FB x0.toNatClampNeg) (Fl x0.toNatClampNeg) 0 (w, Pw, nx0, un) (Fl x0.toNatClampNeg)).2.2.2.1 else Pw)) j)))])) ∧ (∀ j, (j < 0 ∨ 17 ≤ j) → g1 j = g j)) D ad N) 0 0 (AA ad N) := by
  refine mentry (by decide) (Nat.le_of_ble_eq_true rfl) (fun p e s m below meth c ls S hr hlk hnm hP hK hl => ?_)
  have S : CallFix p m c cX9_dance 2 s _ wsL_law RX9 := S
  have hx := S.1
  have hb := S.2.1
  have hl : lv_has ls 2 [(0, .ref (ad 0)), (1, .int x0)] := hl
  have hI : MD (AA ad N) ad N := MD.in hinj
  have hS : va_S (AA ad N) s.heap s.heap [] := va_S.rf
  have hfr : ∀ j : Nat, g j = g j := fun _ => rfl
  refine lv_aload_n hx hb dX9_dance_0 rfl (lv_at hl 0 rfl) ?_
  refine lv_iload_n hx hb dX9_dance_1 rfl (lv_at hl 1 rfl) ?_
  refine kVi (As := [.int x0]) (rest := []) S hK hP (c_X9_isFigure l D cy ad N g (by omega) qc fc lf lt vc hX ff hff hfc x0) cv_X9_197 (by omega) hX ⟨_, _, rfl⟩ ⟨rfl, rfl⟩ rfl hl.1 rfl (Nat.le_of_ble_eq_true rfl) ⟨Nat.zero_le _, Nat.zero_le _⟩ dX9_dance_2 (fun r_2 q_2 => ?_)
  subst q_2
  refine lv_if_eq (tgt := 22) hx hb dX9_dance_5 (by decide) (fun c_5 => ?_) (fun c_5 => ?_)
  · skip
    have c_5 := bz_eq.mp c_5
    have hJ : ¬ isI x0 fc := c_5
    refine lv_iconst (v := (-1)) hx hb dX9_dance_22 (by decide) ?_
    exact rMi S hr hlk hP hS ⟨(if_neg hJ).symm, (by simp only [if_neg hJ]; exact hX), (by simp only [if_neg hJ]; exact hg), (by simp only [if_neg hJ]; exact hgn), hga, (by simp only [if_neg hJ]; exact hfam), (fun j n0 => hfr j )⟩ dX9_dance_23
  · skip
    have c_5 := bz_ne.mp c_5
    have hJ := c_5
    obtain ⟨i, hib, rfl⟩ := isI_nat (by omega) c_5
    have hib9 : i < 2 ^ 31 := by omega
    refine lv_aload_n hx hb dX9_dance_8 rfl (lv_at hl 0 rfl) ?_
    refine lv_aload_n hx hb dX9_dance_9 rfl (lv_at hl 0 rfl) ?_
    refine mg S hK hP (by omega) hX fd_X9_53 rfl dX9_dance_10 ?_
    refine lv_iload_n hx hb dX9_dance_13 rfl (lv_at hl 1 rfl) ?_
    have hf9_1 : i < 8 := by omega
    have hfc_2 : g (82 + 2 * i + 1) = .inl (cy 0, 200, .inl (fun x9 => nI ((FB i) x9))) := hFb i hf9_1
    have hfc_3 : g (82 + 2 * i) = .inr (0, [.ref (ad (82 + 2 * i + 1)), .int (nI (Fl i))]) := hFo i hf9_1
    refine mial7 S hK hP (by omega) hff rfl (vp_in_nI (by omega) (by omega)) (a := ad (82 + 2 * i)) ((congrArg ff (nI_clamp (by omega))).trans (hfj _ hf9_1)) dX9_dance_14 ?_
    refine lv_iconst (v := nI (0)) hx hb dX9_dance_15 (by decide) ?_
    refine kMi (As := [.ref (ad (82 + 2 * i)), .int (nI (0))]) (rest := []) S hK hP hS (fun _ h => h) (c_X9_doneOnFloor l D cy ad N g hinj (by omega) qc fc lf lt vc hX nx0 un rf hg w hgn fa hga hfa Pw hfam (by omega) (by omega) hw hPw (82 + 2 * i) (by omega) (82 + 2 * i + 1) (by omega) (Fl i) (FB i) hfc_3 hfc_2 (by omega) (hFl i) (hFB i) (by omega) 0 (by omega)) cv_X9_214 (by omega) hX ⟨_, _, rfl⟩ ⟨rfl, rfl⟩ rfl hl.1 rfl (Nat.le_of_ble_eq_true rfl) ⟨Nat.zero_le _, Nat.zero_le _⟩ dX9_dance_16 (fun r_16 g_4 H locs q_4 hP hS => ?_)
    obtain ⟨q_16, h0_4, h1_4, h1___1_4, h1___2_4, hfam_P_4, f_4⟩ := q_4
    subst q_16
    have h52_4 : g_4 52 = .inl (cy 3, 8, .inr (.inr (.inr (.inr ff)))) := (f_4 52 (by omega)).trans hff
    have h82___2___i___1_4 : g_4 (82 + 2 * i + 1) = .inl (cy 0, 200, .inl (fun x9 => nI ((FB i) x9))) := (f_4 (82 + 2 * i + 1) (by omega)).trans hfc_2
    have h82___2___i_4 : g_4 (82 + 2 * i) = .inr (0, [.ref (ad (82 + 2 * i + 1)), .int (nI (Fl i))]) := (f_4 (82 + 2 * i) (by omega)).trans hfc_3
    have hfam_FO_4 : (∀ j : Nat, j < 8 → g_4 (82 + 2 * j) = .inr (0, [.ref (ad (82 + 2 * j + 1)), .int (nI (Fl j))])) := fun j hj => (f_4 (82 + 2 * j) (by omega)).trans (hFo j hj)
    have hfam_FB_4 : (∀ j : Nat, j < 8 → g_4 (82 + 2 * j + 1) = .inl (cy 0, 200, .inl (fun x9 => nI ((FB j) x9)))) := fun j hj => (f_4 (82 + 2 * j + 1) (by omega)).trans (hFb j hj)
    have hfr_4 : ∀ j : Nat, (j < 0 ∨ 17 ≤ j) → g_4 j = g j := fun j n0 => (f_4 j n0).trans (hfr j )
    refine lv_goto (tgt := 23) hx hb dX9_dance_19 (by decide) ?_
    exact rMi S hr hlk hP hS ⟨(by simp only [if_pos hJ, nI_clamp hib9]), (by simp only [if_pos hJ, nI_clamp hib9]; exact h0_4), (by simp only [if_pos hJ, nI_clamp hib9]; exact h1_4), (by simp only [if_pos hJ, nI_clamp hib9]; exact h1___1_4), h1___2_4, (by simp only [if_pos hJ, nI_clamp hib9]; exact hfam_P_4), hfr_4⟩ dX9_dance_23
set_option maxHeartbeats 4000000 in
set_option maxRecDepth 100000 in
theorem c_X9_back (l : Launch) (D : va_G) (cy : Nat → ClassId) (ad : Nat → Nat) (N : Nat) (g : Nat → va_E) (hinj : ∀ i j : Nat, i < N → j < N → ad i = ad j → i = j) (hN : 114 ≤ N) (qc : Nat) (fc : Nat) (lf : Int32) (lt : Int32) (vc : Nat) (hX : g 0 = .inr (9, [.ref (ad 1), .ref (ad 17), .ref (ad 33), .ref (ad 34), .int (nI (qc)), .ref (ad 35), .ref (ad 45), .ref (ad 47), .ref (ad 52), .int (nI (fc)), .int lf, .int lt, .ref (ad 53), .int (nI (vc)), .ref (ad 54), .ref (ad 75)])) (nx0 : Nat) (un : Nat) (rf : Int32) (hg : g 1 = .inr (1, [.ref (ad (1 + 1)), .ref (ad (1 + 2)), .int (nI (nx0)), .int (nI (un)), .int rf])) (w : WT) (hgn : g (1 + 1) = .inr (8, [.int (nI (wn w)), .long (lN (sea (wd w) (wn w))), .int (nI (wf w)), .int (nI (wh w)), .long (lN (wo w))])) (fa : Nat → Option Nat) (hga : g (1 + 2) = .inl (cy 6, 13, .inr (.inr (.inr (.inr fa))))) (hfa : ∀ j, j < 13 → fa j = some (ad (1 + 3 + j))) (Pw : Nat → WT) (hfam : (∀ j : Nat, j < 13 → g (1 + 3 + j) = .inr (8, [.int (nI (wn (Pw j))), .long (lN (sea (wd (Pw j)) (wn (Pw j)))), .int (nI (wf (Pw j))), .int (nI (wh (Pw j))), .long (lN (wo (Pw j)))]))) (hnx : nx0 < 13) (hun : un ≤ 12) (hw : WOK w) (hPw : ∀ j, j < 13 → WOK (Pw j)) (ff : Nat → Option Nat) (hff : g 52 = .inl (cy 3, 8, .inr (.inr (.inr (.inr ff))))) (hfc : fc ≤ 8) (hfj : ∀ j, j < 8 → ff j = some (ad (82 + 2 * j))) (Fl : Nat → Nat) (hFo : (∀ j : Nat, j < 8 → g (82 + 2 * j) = .inr (0, [.ref (ad (82 + 2 * j + 1)), .int (nI (Fl j))]))) (hFl : ∀ j, Fl j ≤ 200) (FB : Nat → Nat → Nat) (hFb : (∀ j : Nat, j < 8 → g (82 + 2 * j + 1) = .inl (cy 0, 200, .inl (fun x9 => nI ((FB j) x9))))) (hFB : ∀ j i, FB j i < 64) (x0 : Int32) : Met l yX9_back (WS yX9_back cX9_back 2 (some .int)) (rmF 7 163) (PP [.ref (ad 0), .int x0] D cy ad N g) (QI (fun r g1 => (r = if isI x0 fc then dnF (rn (FB x0.toNatClampNeg) (Fl x0.toNatClampNeg) 1 (w, Pw, nx0, un) (Fl x0.toNatClampNeg)) else -1) ∧ g1 0 = .inr (9, [.ref (ad 1), .ref (ad 17), .ref (ad 33), .ref (ad 34), .int (nI (qc)), .ref (ad 35), .ref (ad 45), .ref (ad 47), .ref (ad 52), .int (nI (fc)), .int lf, .int ((if isI x0 fc then (rn (FB x0.toNatClampNeg) (Fl x0.toNatClampNeg) 1 (w, Pw, nx0, un) (Fl x0.toNatClampNeg)).2.1 else lt)), .ref (ad 53), .int (nI (vc)), .ref (ad 54), .ref (ad 75)]) ∧ g1 1 = .inr (1, [.ref (ad (1 + 1)), .ref (ad (1 + 2)), .int (nI ((if isI x0 fc then (rn (FB x0.toNatClampNeg) (Fl x0.toNatClampNeg) 1 (w, Pw, nx0, un) (Fl x0.toNatClampNeg)).2.2.2.2.1 else nx0))), .int (nI ((if isI x0 fc then (rn (FB x0.toNatClampNeg) (Fl x0.toNatClampNeg) 1 (w, Pw, nx0, un) (Fl x0.toNatClampNeg)).2.2.2.2.2 else un))), .int ((if isI x0 fc then (rn (FB x0.toNatClampNeg) (Fl x0.toNatClampNeg) 1 (w, Pw, nx0, un) (Fl x0.toNatClampNeg)).2.1 else rf))]) ∧ g1 (1 + 1) = .inr (8, [.int (nI (wn ((if isI x0 fc then (rn (FB x0.toNatClampNeg) (Fl x0.toNatClampNeg) 1 (w, Pw, nx0, un) (Fl x0.toNatClampNeg)).2.2.1 else w)))), .long (lN (sea (wd ((if isI x0 fc then (rn (FB x0.toNatClampNeg) (Fl x0.toNatClampNeg) 1 (w, Pw, nx0, un) (Fl x0.toNatClampNeg)).2.2.1 else w))) (wn ((if isI x0 fc then (rn (FB x0.toNatClampNeg) (Fl x0.toNatClampNeg) 1 (w, Pw, nx0, un) (Fl x0.toNatClampNeg)).2.2.1 else w))))), .int (nI (wf ((if isI x0 fc then (rn (FB x0.toNatClampNeg) (Fl x0.toNatClampNeg) 1 (w, Pw, nx0, un) (Fl x0.toNatClampNeg)).2.2.1 else w)))), .int (nI (wh ((if isI x0 fc then (rn (FB x0.toNatClampNeg) (Fl x0.toNatClampNeg) 1 (w, Pw, nx0, un) (Fl x0.toNatClampNeg)).2.2.1 else w)))), .long (lN (wo ((if isI x0 fc then (rn (FB x0.toNatClampNeg) (Fl x0.toNatClampNeg) 1 (w, Pw, nx0, un) (Fl x0.toNatClampNeg)).2.2.1 else w))))]) ∧ g1 (1 + 2) = .inl (cy 6, 13, .inr (.inr (.inr (.inr fa)))) ∧ (∀ j : Nat, j < 13 → g1 (1 + 3 + j) = .inr (8, [.int (nI (wn (((if isI x0 fc then (rn (FB x0.toNatClampNeg) (Fl x0.toNatClampNeg) 1 (w, Pw, nx0, un) (Fl x0.toNatClampNeg)).2.2.2.1 else Pw)) j))), .long (lN (sea (wd (((if isI x0 fc then (rn (FB x0.toNatClampNeg) (Fl x0.toNatClampNeg) 1 (w, Pw, nx0, un) (Fl x0.toNatClampNeg)).2.2.2.1 else Pw)) j)) (wn (((if isI x0 fc then (rn (FB x0.toNatClampNeg) (Fl x0.toNatClampNeg) 1 (w, Pw, nx0, un) (Fl x0.toNatClampNeg)).2.2.2.1 else Pw)) j)))), .int (nI (wf (((if isI x0 fc then (rn (FB x0.toNatClampNeg) (Fl x0.toNatClampNeg) 1 (w, Pw, nx0, un) (Fl x0.toNatClampNeg)).2.2.2.1 else Pw)) j))), .int (nI (wh (((if isI x0 fc then (rn (FB x0.toNatClampNeg) (Fl x0.toNatClampNeg) 1 (w, Pw, nx0, un) (Fl x0.toNatClampNeg)).2.2.2.1 else Pw)) j))), .long (lN (wo (((if isI x0 fc then (rn (FB x0.toNatClampNeg) (Fl x0.toNatClampNeg) 1 (w, Pw, nx0, un) (Fl x0.toNatClampNeg)).2.2.2.1 else Pw)) j)))])) ∧ (∀ j, (j < 0 ∨ 17 ≤ j) → g1 j = g j)) D ad N) 0 0 (AA ad N) := by
  refine mentry (by decide) (Nat.le_of_ble_eq_true rfl) (fun p e s m below meth c ls S hr hlk hnm hP hK hl => ?_)
  have S : CallFix p m c cX9_back 2 s _ wsL_law RX9 := S
  have hx := S.1
  have hb := S.2.1
  have hl : lv_has ls 2 [(0, .ref (ad 0)), (1, .int x0)] := hl
  have hI : MD (AA ad N) ad N := MD.in hinj
  have hS : va_S (AA ad N) s.heap s.heap [] := va_S.rf
  have hfr : ∀ j : Nat, g j = g j := fun _ => rfl
  refine lv_aload_n hx hb dX9_back_0 rfl (lv_at hl 0 rfl) ?_
  refine lv_iload_n hx hb dX9_back_1 rfl (lv_at hl 1 rfl) ?_
  refine kVi (As := [.int x0]) (rest := []) S hK hP (c_X9_isFigure l D cy ad N g (by omega) qc fc lf lt vc hX ff hff hfc x0) cv_X9_197 (by omega) hX ⟨_, _, rfl⟩ ⟨rfl, rfl⟩ rfl hl.1 rfl (Nat.le_of_ble_eq_true rfl) ⟨Nat.zero_le _, Nat.zero_le _⟩ dX9_back_2 (fun r_2 q_2 => ?_)
  subst q_2
  refine lv_if_eq (tgt := 22) hx hb dX9_back_5 (by decide) (fun c_5 => ?_) (fun c_5 => ?_)
  · skip
    have c_5 := bz_eq.mp c_5
    have hJ : ¬ isI x0 fc := c_5
    refine lv_iconst (v := (-1)) hx hb dX9_back_22 (by decide) ?_
    exact rMi S hr hlk hP hS ⟨(if_neg hJ).symm, (by simp only [if_neg hJ]; exact hX), (by simp only [if_neg hJ]; exact hg), (by simp only [if_neg hJ]; exact hgn), hga, (by simp only [if_neg hJ]; exact hfam), (fun j n0 => hfr j )⟩ dX9_back_23
  · skip
    have c_5 := bz_ne.mp c_5
    have hJ := c_5
    obtain ⟨i, hib, rfl⟩ := isI_nat (by omega) c_5
    have hib9 : i < 2 ^ 31 := by omega
    refine lv_aload_n hx hb dX9_back_8 rfl (lv_at hl 0 rfl) ?_
    refine lv_aload_n hx hb dX9_back_9 rfl (lv_at hl 0 rfl) ?_
    refine mg S hK hP (by omega) hX fd_X9_53 rfl dX9_back_10 ?_
    refine lv_iload_n hx hb dX9_back_13 rfl (lv_at hl 1 rfl) ?_
    have hf9_1 : i < 8 := by omega
    have hfc_2 : g (82 + 2 * i + 1) = .inl (cy 0, 200, .inl (fun x9 => nI ((FB i) x9))) := hFb i hf9_1
    have hfc_3 : g (82 + 2 * i) = .inr (0, [.ref (ad (82 + 2 * i + 1)), .int (nI (Fl i))]) := hFo i hf9_1
    refine mial7 S hK hP (by omega) hff rfl (vp_in_nI (by omega) (by omega)) (a := ad (82 + 2 * i)) ((congrArg ff (nI_clamp (by omega))).trans (hfj _ hf9_1)) dX9_back_14 ?_
    refine lv_iconst (v := nI (1)) hx hb dX9_back_15 (by decide) ?_
    refine kMi (As := [.ref (ad (82 + 2 * i)), .int (nI (1))]) (rest := []) S hK hP hS (fun _ h => h) (c_X9_doneOnFloor l D cy ad N g hinj (by omega) qc fc lf lt vc hX nx0 un rf hg w hgn fa hga hfa Pw hfam (by omega) (by omega) hw hPw (82 + 2 * i) (by omega) (82 + 2 * i + 1) (by omega) (Fl i) (FB i) hfc_3 hfc_2 (by omega) (hFl i) (hFB i) (by omega) 1 (by omega)) cv_X9_214 (by omega) hX ⟨_, _, rfl⟩ ⟨rfl, rfl⟩ rfl hl.1 rfl (Nat.le_of_ble_eq_true rfl) ⟨Nat.zero_le _, Nat.zero_le _⟩ dX9_back_16 (fun r_16 g_4 H locs q_4 hP hS => ?_)
    obtain ⟨q_16, h0_4, h1_4, h1___1_4, h1___2_4, hfam_P_4, f_4⟩ := q_4
    subst q_16
    have h52_4 : g_4 52 = .inl (cy 3, 8, .inr (.inr (.inr (.inr ff)))) := (f_4 52 (by omega)).trans hff
    have h82___2___i___1_4 : g_4 (82 + 2 * i + 1) = .inl (cy 0, 200, .inl (fun x9 => nI ((FB i) x9))) := (f_4 (82 + 2 * i + 1) (by omega)).trans hfc_2
    have h82___2___i_4 : g_4 (82 + 2 * i) = .inr (0, [.ref (ad (82 + 2 * i + 1)), .int (nI (Fl i))]) := (f_4 (82 + 2 * i) (by omega)).trans hfc_3
    have hfam_FO_4 : (∀ j : Nat, j < 8 → g_4 (82 + 2 * j) = .inr (0, [.ref (ad (82 + 2 * j + 1)), .int (nI (Fl j))])) := fun j hj => (f_4 (82 + 2 * j) (by omega)).trans (hFo j hj)
    have hfam_FB_4 : (∀ j : Nat, j < 8 → g_4 (82 + 2 * j + 1) = .inl (cy 0, 200, .inl (fun x9 => nI ((FB j) x9)))) := fun j hj => (f_4 (82 + 2 * j + 1) (by omega)).trans (hFb j hj)
    have hfr_4 : ∀ j : Nat, (j < 0 ∨ 17 ≤ j) → g_4 j = g j := fun j n0 => (f_4 j n0).trans (hfr j )
    refine lv_goto (tgt := 23) hx hb dX9_back_19 (by decide) ?_
    exact rMi S hr hlk hP hS ⟨(by simp only [if_pos hJ, nI_clamp hib9]), (by simp only [if_pos hJ, nI_clamp hib9]; exact h0_4), (by simp only [if_pos hJ, nI_clamp hib9]; exact h1_4), (by simp only [if_pos hJ, nI_clamp hib9]; exact h1___1_4), h1___2_4, (by simp only [if_pos hJ, nI_clamp hib9]; exact hfam_P_4), hfr_4⟩ dX9_back_23


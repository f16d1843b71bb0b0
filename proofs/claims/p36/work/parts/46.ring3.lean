set_option maxHeartbeats 4000000 in
set_option maxRecDepth 100000 in
theorem c_X9_ring (l : Launch) (D : va_G) (cy : Nat → ClassId) (ad : Nat → Nat) (N : Nat) (g : Nat → va_E) (hinj : ∀ i j : Nat, i < N → j < N → ad i = ad j → i = j) (hN : 114 ≤ N) (qc : Nat) (fc : Nat) (lf : Int32) (lt : Int32) (vc : Nat) (hX : g 0 = .inr (9, [.ref (ad 1), .ref (ad 17), .ref (ad 33), .ref (ad 34), .int (nI (qc)), .ref (ad 35), .ref (ad 45), .ref (ad 47), .ref (ad 52), .int (nI (fc)), .int lf, .int lt, .ref (ad 53), .int (nI (vc)), .ref (ad 54), .ref (ad 75)])) (nx0 : Nat) (un : Nat) (rf : Int32) (hg : g 1 = .inr (1, [.ref (ad (1 + 1)), .ref (ad (1 + 2)), .int (nI (nx0)), .int (nI (un)), .int rf])) (w : WT) (hgn : g (1 + 1) = .inr (8, [.int (nI (wn w)), .long (lN (sea (wd w) (wn w))), .int (nI (wf w)), .int (nI (wh w)), .long (lN (wo w))])) (fa : Nat → Option Nat) (hga : g (1 + 2) = .inl (cy 6, 13, .inr (.inr (.inr (.inr fa))))) (hfa : ∀ j, j < 13 → fa j = some (ad (1 + 3 + j))) (Pw : Nat → WT) (hfam : (∀ j : Nat, j < 13 → g (1 + 3 + j) = .inr (8, [.int (nI (wn (Pw j))), .long (lN (sea (wd (Pw j)) (wn (Pw j)))), .int (nI (wf (Pw j))), .int (nI (wh (Pw j))), .long (lN (wo (Pw j)))]))) (hnx : nx0 < 13) (hun : un ≤ 12) (hw : WOK w) (hPw : ∀ j, j < 13 → WOK (Pw j)) (x0 : Int32) : Met l yX9_ring (WS yX9_ring cX9_ring 2 (some .int)) (rmF 2 41) (PP [.ref (ad 0), .int x0] D cy ad N g) (QI (fun r g1 => (r = if rgI x0 then 1 else -1) ∧ g1 0 = .inr (9, [.ref (ad 1), .ref (ad 17), .ref (ad 33), .ref (ad 34), .int (nI ((if rgI x0 then 0 else qc))), .ref (ad 35), .ref (ad 45), .ref (ad 47), .ref (ad 52), .int (nI (fc)), .int lf, .int lt, .ref (ad 53), .int (nI (vc)), .ref (ad 54), .ref (ad 75)]) ∧ g1 1 = .inr (1, [.ref (ad (1 + 1)), .ref (ad (1 + 2)), .int (nI (nx0)), .int (nI ((if rgI x0 then 0 else un))), .int rf]) ∧ g1 (1 + 1) = .inr (8, [.int (nI (wn ((if rgI x0 then bgW x0.toNatClampNeg else w)))), .long (lN (sea (wd ((if rgI x0 then bgW x0.toNatClampNeg else w))) (wn ((if rgI x0 then bgW x0.toNatClampNeg else w))))), .int (nI (wf ((if rgI x0 then bgW x0.toNatClampNeg else w)))), .int (nI (wh ((if rgI x0 then bgW x0.toNatClampNeg else w)))), .long (lN (wo ((if rgI x0 then bgW x0.toNatClampNeg else w))))]) ∧ (∀ j, j ≠ 0 → j ≠ 1 → j ≠ (1 + 1) → g1 j = g j)) D ad N) 0 0 (AA ad N) := by
  refine mentry (by decide) (Nat.le_of_ble_eq_true rfl) (fun p e s m below meth c ls S hr hlk hnm hP hK hl => ?_)
  have S : CallFix p m c cX9_ring 2 s _ wsL_law RX9 := S
  have hx := S.1
  have hb := S.2.1
  have hl : lv_has ls 2 [(0, .ref (ad 0)), (1, .int x0)] := hl
  have hI : MD (AA ad N) ad N := MD.in hinj
  have hS : va_S (AA ad N) s.heap s.heap [] := va_S.rf
  have hfr : ∀ j : Nat, g j = g j := fun _ => rfl
  refine lv_iload_n hx hb dX9_ring_0 rfl (lv_at hl 1 rfl) ?_
  refine lv_iconst (v := nI (4)) hx hb dX9_ring_1 (by decide) ?_
  refine lv_icmp_lt (tgt := 11) hx hb dX9_ring_2 (by decide) (fun c_2 => ?_) (fun c_2 => ?_)
  · skip
    have hJ : ¬ rgI x0 := fun q => q.1 c_2
    refine lv_iconst (v := (-1)) hx hb dX9_ring_11 (by decide) ?_
    exact rMi S hr hlk hP hS ⟨(if_neg hJ).symm, (by rw [if_neg hJ]; exact hX), (by rw [if_neg hJ]; exact hg), (by rw [if_neg hJ]; exact hgn), (fun j n0 n1 n2 => hfr j )⟩ dX9_ring_12
  · skip
    refine lv_iload_n hx hb dX9_ring_5 rfl (lv_at hl 1 rfl) ?_
    refine lv_bipush (v := nI (8)) hx hb dX9_ring_6 (by decide) ?_
    refine lv_icmp_le (tgt := 13) hx hb dX9_ring_8 (by decide) (fun c_8 => ?_) (fun c_8 => ?_)
    · skip
      obtain ⟨i, hib, rfl⟩ := rg_nat c_2 (Int32.not_lt.mpr c_8)
      have hJ := rgI_y hib
      have hwb := bgW_ok hib
      refine lv_aload_n hx hb dX9_ring_13 rfl (lv_at hl 0 rfl) ?_
      refine mg S hK hP (by omega) hX fd_X9_10 rfl dX9_ring_14 ?_
      refine mg S hK hP (by omega) hg fd_X9_79 rfl dX9_ring_17 ?_
      refine lv_iload_n hx hb dX9_ring_20 rfl (lv_at hl 1 rfl) ?_
      refine kMv (As := [.int (nI (i))]) (rest := []) S hK hP hS (fun _ h => h) (c_X8_begin l D cy ad N g hinj (1 + 1) (by omega) (nI (wn w)) (lN (sea (wd w) (wn w))) (nI (wf w)) (nI (wh w)) (lN (wo w)) hgn i hib.1 hib.2) cv_X9_82 (by omega) hgn ⟨_, _, rfl⟩ ⟨rfl, rfl⟩ rfl hl.1 rfl (Nat.le_of_ble_eq_true rfl) ⟨Nat.zero_le _, Nat.zero_le _⟩ dX9_ring_21 (fun g_1 H locs q_1 hP hS => ?_)
      obtain ⟨h_1___1__1, f_1⟩ := q_1
      have h0_1 : g_1 0 = .inr (9, [.ref (ad 1), .ref (ad 17), .ref (ad 33), .ref (ad 34), .int (nI (qc)), .ref (ad 35), .ref (ad 45), .ref (ad 47), .ref (ad 52), .int (nI (fc)), .int lf, .int lt, .ref (ad 53), .int (nI (vc)), .ref (ad 54), .ref (ad 75)]) := (f_1 0 (by omega)).trans hX
      have h1_1 : g_1 1 = .inr (1, [.ref (ad (1 + 1)), .ref (ad (1 + 2)), .int (nI (nx0)), .int (nI (un)), .int rf]) := (f_1 1 (by omega)).trans hg
      have h1___2_1 : g_1 (1 + 2) = .inl (cy 6, 13, .inr (.inr (.inr (.inr fa)))) := (f_1 (1 + 2) (by omega)).trans hga
      have hfam_P_1 : (∀ j : Nat, j < 13 → g_1 (1 + 3 + j) = .inr (8, [.int (nI (wn (Pw j))), .long (lN (sea (wd (Pw j)) (wn (Pw j)))), .int (nI (wf (Pw j))), .int (nI (wh (Pw j))), .long (lN (wo (Pw j)))])) := fun j hj => (f_1 (1 + 3 + j) (by omega)).trans (hfam j hj)
      have hfr_1 : ∀ j : Nat, j ≠ (1 + 1) → g_1 j = g j := fun j n0 => (f_1 j n0).trans (hfr j )
      have hbg_2 : g_1 (1 + 1) = .inr (8, [.int (nI (wn (bgW i))), .long (lN (sea (wd (bgW i)) (wn (bgW i)))), .int (nI (wf (bgW i))), .int (nI (wh (bgW i))), .long (lN (wo (bgW i)))]) := h_1___1__1
      refine lv_aload_n hx hb dX9_ring_24 rfl (lv_at hl 0 rfl) ?_
      refine mg S hK hP (by omega) h0_1 fd_X9_10 rfl dX9_ring_25 ?_
      refine kMv (As := []) (rest := []) S hK hP hS (fun _ h => h) (c_X1_forget l D cy ad N g_1 hinj 1 (by omega) nx0 un rf h1_1 (bgW i) hbg_2 fa h1___2_1 hfa Pw hfam_P_1 (by omega) (by omega) hwb hPw) cv_X9_86 (by omega) h1_1 ⟨_, _, rfl⟩ ⟨rfl, rfl⟩ rfl hl.1 rfl (Nat.le_of_ble_eq_true rfl) ⟨Nat.zero_le _, Nat.zero_le _⟩ dX9_ring_28 (fun g_3 H locs q_3 hP hS => ?_)
      obtain ⟨h1_3, f_3⟩ := q_3
      have h0_3 : g_3 0 = .inr (9, [.ref (ad 1), .ref (ad 17), .ref (ad 33), .ref (ad 34), .int (nI (qc)), .ref (ad 35), .ref (ad 45), .ref (ad 47), .ref (ad 52), .int (nI (fc)), .int lf, .int lt, .ref (ad 53), .int (nI (vc)), .ref (ad 54), .ref (ad 75)]) := (f_3 0 (by omega)).trans h0_1
      have h1___1_3 : g_3 (1 + 1) = .inr (8, [.int (nI (wn (bgW i))), .long (lN (sea (wd (bgW i)) (wn (bgW i)))), .int (nI (wf (bgW i))), .int (nI (wh (bgW i))), .long (lN (wo (bgW i)))]) := (f_3 (1 + 1) (by omega)).trans hbg_2
      have h1___2_3 : g_3 (1 + 2) = .inl (cy 6, 13, .inr (.inr (.inr (.inr fa)))) := (f_3 (1 + 2) (by omega)).trans h1___2_1
      have hfam_P_3 : (∀ j : Nat, j < 13 → g_3 (1 + 3 + j) = .inr (8, [.int (nI (wn (Pw j))), .long (lN (sea (wd (Pw j)) (wn (Pw j)))), .int (nI (wf (Pw j))), .int (nI (wh (Pw j))), .long (lN (wo (Pw j)))])) := fun j hj => (f_3 (1 + 3 + j) (by omega)).trans (hfam_P_1 j hj)
      have hfr_3 : ∀ j : Nat, j ≠ (1 + 1) → j ≠ 1 → g_3 j = g j := fun j n0 n1 => (f_3 j n1).trans (hfr_1 j n0)
      refine lv_aload_n hx hb dX9_ring_31 rfl (lv_at hl 0 rfl) ?_
      refine lv_iconst (v := nI (0)) hx hb dX9_ring_32 (by decide) ?_
      refine mp S hK hP hI hS (by omega) h0_3 fd_X9_89 rfl rfl (Nat.le_of_ble_eq_true rfl) dX9_ring_33 (fun g_4 H locs eg_4 hP hS => ?_)
      have h0_4 : g_4 0 = .inr (9, [.ref (ad 1), .ref (ad 17), .ref (ad 33), .ref (ad 34), .int (nI (0)), .ref (ad 35), .ref (ad 45), .ref (ad 47), .ref (ad 52), .int (nI (fc)), .int lf, .int lt, .ref (ad 53), .int (nI (vc)), .ref (ad 54), .ref (ad 75)]) := by rw [eg_4, va_up_self]; exact rfl
      have h1_4 : g_4 1 = .inr (1, [.ref (ad (1 + 1)), .ref (ad (1 + 2)), .int (nI (nx0)), .int (nI (0)), .int rf]) := ((congrFun eg_4 _).trans (va_up_ne _ _ (by omega))).trans h1_3
      have h1___1_4 : g_4 (1 + 1) = .inr (8, [.int (nI (wn (bgW i))), .long (lN (sea (wd (bgW i)) (wn (bgW i)))), .int (nI (wf (bgW i))), .int (nI (wh (bgW i))), .long (lN (wo (bgW i)))]) := ((congrFun eg_4 _).trans (va_up_ne _ _ (by omega))).trans h1___1_3
      have h1___2_4 : g_4 (1 + 2) = .inl (cy 6, 13, .inr (.inr (.inr (.inr fa)))) := ((congrFun eg_4 _).trans (va_up_ne _ _ (by omega))).trans h1___2_3
      have hfam_P_4 : (∀ j : Nat, j < 13 → g_4 (1 + 3 + j) = .inr (8, [.int (nI (wn (Pw j))), .long (lN (sea (wd (Pw j)) (wn (Pw j)))), .int (nI (wf (Pw j))), .int (nI (wh (Pw j))), .long (lN (wo (Pw j)))])) := fun j hj => ((congrFun eg_4 _).trans (va_up_ne _ _ (by omega))).trans (hfam_P_3 j hj)
      have hfr_4 : ∀ j : Nat, j ≠ (1 + 1) → j ≠ 1 → j ≠ 0 → g_4 j = g j := fun j n0 n1 n2 => ((congrFun eg_4 _).trans (va_up_ne _ _ n2)).trans (hfr_3 j n0 n1)
      refine lv_iconst (v := nI (1)) hx hb dX9_ring_36 (by decide) ?_
      exact rMi S hr hlk hP hS ⟨(if_pos hJ).symm, (by rw [if_pos hJ]; exact h0_4), (by rw [if_pos hJ]; exact h1_4), (by rw [if_pos hJ, nI_clamp (by omega)]; exact h1___1_4), (fun j n0 n1 n2 => hfr_4 j (by omega) (by omega) (by omega))⟩ dX9_ring_37
    · skip
      have hJ : ¬ rgI x0 := fun q => q.2 (Int32.not_le.mp c_8)
      refine lv_iconst (v := (-1)) hx hb dX9_ring_11 (by decide) ?_
      exact rMi S hr hlk hP hS ⟨(if_neg hJ).symm, (by rw [if_neg hJ]; exact hX), (by rw [if_neg hJ]; exact hg), (by rw [if_neg hJ]; exact hgn), (fun j n0 n1 n2 => hfr j )⟩ dX9_ring_12
set_option maxHeartbeats 4000000 in
set_option maxRecDepth 100000 in
theorem c_X9_over (l : Launch) (D : va_G) (cy : Nat → ClassId) (ad : Nat → Nat) (N : Nat) (g : Nat → va_E) (hN : 114 ≤ N) (qc : Nat) (fc : Nat) (lf : Int32) (lt : Int32) (vc : Nat) (hX : g 0 = .inr (9, [.ref (ad 1), .ref (ad 17), .ref (ad 33), .ref (ad 34), .int (nI (qc)), .ref (ad 35), .ref (ad 45), .ref (ad 47), .ref (ad 52), .int (nI (fc)), .int lf, .int lt, .ref (ad 53), .int (nI (vc)), .ref (ad 54), .ref (ad 75)])) (nx0 : Nat) (un : Nat) (rf : Int32) (hg : g 1 = .inr (1, [.ref (ad (1 + 1)), .ref (ad (1 + 2)), .int (nI (nx0)), .int (nI (un)), .int rf])) (w : WT) (hgn : g (1 + 1) = .inr (8, [.int (nI (wn w)), .long (lN (sea (wd w) (wn w))), .int (nI (wf w)), .int (nI (wh w)), .long (lN (wo w))])) (fa : Nat → Option Nat) (hga : g (1 + 2) = .inl (cy 6, 13, .inr (.inr (.inr (.inr fa))))) (hfa : ∀ j, j < 13 → fa j = some (ad (1 + 3 + j))) (Pw : Nat → WT) (hfam : (∀ j : Nat, j < 13 → g (1 + 3 + j) = .inr (8, [.int (nI (wn (Pw j))), .long (lN (sea (wd (Pw j)) (wn (Pw j)))), .int (nI (wf (Pw j))), .int (nI (wh (Pw j))), .long (lN (wo (Pw j)))]))) (hnx : nx0 < 13) (hun : un ≤ 12) (hw : WOK w) (hPw : ∀ j, j < 13 → WOK (Pw j)) (x0 : Int32) (y0 : Int32) : Met l yX9_over (WS yX9_over cX9_over 4 (some .int)) (rmF 2 44) (PP [.ref (ad 0), .int x0, .int y0] D cy ad N g) (vp_Si (fun r => r = ovA w x0 y0)) 0 0 (fun _ => False) := by
  refine mentry (by decide) (Nat.le_of_ble_eq_true rfl) (fun p e s m below meth c ls S hr hlk hnm hP hK hl => ?_)
  have S : CallFix p m c cX9_over 4 s _ wsL_law RX9 := S
  have hx := S.1
  have hb := S.2.1
  have hl : lv_has ls 4 [(0, .ref (ad 0)), (1, .int x0), (2, .int y0)] := hl
  have hn4 := hw.1.1
  have hn8 := hw.1.2
  have hpm := hw.2.1
  have hda := hpm.1
  have hf := lt256 hw.2.2.1 hn8
  have hh := lt256 hw.2.2.2.1 hn8
  have ho := hw.2.2.2.2.1
  refine lv_aload_n hx hb dX9_over_0 rfl (lv_at hl 0 rfl) ?_
  refine mg S hK hP (by omega) hX fd_X9_10 rfl dX9_over_1 ?_
  refine mg S hK hP (by omega) hg fd_X9_79 rfl dX9_over_4 ?_
  refine lv_astore_n (lv' := [(3, .ref (ad (1 + 1))), (0, .ref (ad 0)), (1, .int x0), (2, .int y0)]) hx hb dX9_over_7 rfl hl (by decide) rfl (fun ls hl => ?_)
  refine lv_iload_n hx hb dX9_over_8 rfl (lv_at hl 2 rfl) ?_
  refine lv_if_lt (tgt := 37) hx hb dX9_over_9 (by decide) (fun c_9 => ?_) (fun c_9 => ?_)
  · skip
    have hJ : ¬ (isI x0 (wn w) ∧ isI y0 (wn w) ∧ x0 ≠ y0) := fun q => q.1.1 c_9
    refine lv_iconst (v := (-1)) hx hb dX9_over_37 (by decide) ?_
    exact rSi S hr hlk (ovA_b hJ).symm dX9_over_38
  · skip
    obtain ⟨i, hib, rfl⟩ := nI_of c_9
    refine lv_iload_n hx hb dX9_over_12 rfl (lv_at hl 2 rfl) ?_
    refine lv_aload_n hx hb dX9_over_13 rfl (lv_at hl 0 rfl) ?_
    refine mg S hK hP (by omega) hgn fd_X9_101 rfl dX9_over_14 ?_
    refine lv_icmp_ge (tgt := 37) hx hb dX9_over_17 (by decide) (fun c_17 => ?_) (fun c_17 => ?_)
    · skip
      have c_17 := (nI_leI (by omega) (by omega)).mp c_17
      have hJ : ¬ (isI (nI i) (wn w) ∧ isI y0 (wn w) ∧ nI i ≠ y0) := fun q => absurd ((isI_nI (by omega) (by omega)).mp q.1) (by omega)
      refine lv_iconst (v := (-1)) hx hb dX9_over_37 (by decide) ?_
      exact rSi S hr hlk (ovA_b hJ).symm dX9_over_38
    · skip
      have c_17 := (not_congr (nI_leI (by omega) (by omega))).mp c_17
      refine lv_iload_n hx hb dX9_over_20 rfl (lv_at hl 3 rfl) ?_
      refine lv_if_lt (tgt := 37) hx hb dX9_over_21 (by decide) (fun c_21 => ?_) (fun c_21 => ?_)
      · skip
        have hJ : ¬ (isI (nI i) (wn w) ∧ isI y0 (wn w) ∧ nI i ≠ y0) := fun q => q.2.1.1 c_21
        refine lv_iconst (v := (-1)) hx hb dX9_over_37 (by decide) ?_
        exact rSi S hr hlk (ovA_b hJ).symm dX9_over_38
      · skip
        obtain ⟨j, hjb, rfl⟩ := nI_of c_21
        refine lv_iload_n hx hb dX9_over_24 rfl (lv_at hl 3 rfl) ?_
        refine lv_aload_n hx hb dX9_over_25 rfl (lv_at hl 0 rfl) ?_
        refine mg S hK hP (by omega) hgn fd_X9_101 rfl dX9_over_26 ?_
        refine lv_icmp_ge (tgt := 37) hx hb dX9_over_29 (by decide) (fun c_29 => ?_) (fun c_29 => ?_)
        · skip
          have c_29 := (nI_leI (by omega) (by omega)).mp c_29
          have hJ : ¬ (isI (nI i) (wn w) ∧ isI (nI j) (wn w) ∧ nI i ≠ nI j) := fun q => absurd ((isI_nI (by omega) (by omega)).mp q.2.1) (by omega)
          refine lv_iconst (v := (-1)) hx hb dX9_over_37 (by decide) ?_
          exact rSi S hr hlk (ovA_b hJ).symm dX9_over_38
        · skip
          have c_29 := (not_congr (nI_leI (by omega) (by omega))).mp c_29
          refine lv_iload_n hx hb dX9_over_32 rfl (lv_at hl 2 rfl) ?_
          refine lv_iload_n hx hb dX9_over_33 rfl (lv_at hl 3 rfl) ?_
          refine lv_icmp_ne (tgt := 39) hx hb dX9_over_34 (by decide) (fun c_34 => ?_) (fun c_34 => ?_)
          · skip
            have c_34 := (not_congr (nI_eq (by omega) (by omega))).mp c_34
            have hO := ovA_y hn8 (i := i) (j := j) (by omega) (by omega) c_34
            refine lv_aload_n hx hb dX9_over_39 rfl (lv_at hl 0 rfl) ?_
            refine lv_iload_n hx hb dX9_over_40 rfl (lv_at hl 2 rfl) ?_
            refine lv_iload_n hx hb dX9_over_41 rfl (lv_at hl 3 rfl) ?_
            refine kVi (As := [.int (nI (i)), .int (nI (j))]) (rest := []) S hK hP (c_X8_lies l D cy ad N g (1 + 1) (by omega) (wn w) (wd w) (wf w) (wh w) (wo w) hgn hn4 hn8 ho i j (by omega) (by omega)) cv_X9_128 (by omega) hgn ⟨_, _, rfl⟩ ⟨rfl, rfl⟩ rfl hl.1 rfl (Nat.le_of_ble_eq_true rfl) ⟨Nat.zero_le _, Nat.zero_le _⟩ dX9_over_42 (fun r_42 q_42 => ?_)
            subst q_42
            refine lv_if_eq (tgt := 50) hx hb dX9_over_45 (by decide) (fun c_45 => ?_) (fun c_45 => ?_)
            · skip
              have c_45 := bz_eq.mp c_45
              refine lv_aload_n hx hb dX9_over_50 rfl (lv_at hl 0 rfl) ?_
              refine lv_iload_n hx hb dX9_over_51 rfl (lv_at hl 3 rfl) ?_
              refine lv_iload_n hx hb dX9_over_52 rfl (lv_at hl 2 rfl) ?_
              refine kVi (As := [.int (nI (j)), .int (nI (i))]) (rest := []) S hK hP (c_X8_lies l D cy ad N g (1 + 1) (by omega) (wn w) (wd w) (wf w) (wh w) (wo w) hgn hn4 hn8 ho j i (by omega) (by omega)) cv_X9_128 (by omega) hgn ⟨_, _, rfl⟩ ⟨rfl, rfl⟩ rfl hl.1 rfl (Nat.le_of_ble_eq_true rfl) ⟨Nat.zero_le _, Nat.zero_le _⟩ dX9_over_53 (fun r_53 q_53 => ?_)
              subst q_53
              refine lv_if_eq (tgt := 63) hx hb dX9_over_56 (by decide) (fun c_56 => ?_) (fun c_56 => ?_)
              · skip
                have c_56 := bz_eq.mp c_56
                refine lv_bipush (v := (-4)) hx hb dX9_over_63 (by decide) ?_
                exact rSi S hr hlk (by rw [hO, if_neg c_45, if_neg c_56]) dX9_over_65
              · skip
                have c_56 := bz_ne.mp c_56
                refine lv_iconst (v := nI (0)) hx hb dX9_over_59 (by decide) ?_
                refine lv_goto (tgt := 65) hx hb dX9_over_60 (by decide) ?_
                exact rSi S hr hlk (by rw [hO, if_neg c_45, if_pos c_56]; rfl) dX9_over_65
            · skip
              have c_45 := bz_ne.mp c_45
              refine lv_iconst (v := nI (1)) hx hb dX9_over_48 (by decide) ?_
              exact rSi S hr hlk (by rw [hO, if_pos c_45]; rfl) dX9_over_49
          · skip
            have c_34 := (nI_eq (by omega) (by omega)).mp c_34
            have hJ : ¬ (isI (nI i) (wn w) ∧ isI (nI j) (wn w) ∧ nI i ≠ nI j) := fun q => q.2.2 (by rw [c_34])
            refine lv_iconst (v := (-1)) hx hb dX9_over_37 (by decide) ?_
            exact rSi S hr hlk (ovA_b hJ).symm dX9_over_38
set_option maxHeartbeats 4000000 in
set_option maxRecDepth 100000 in
theorem c_X9_feed (l : Launch) (D : va_G) (cy : Nat → ClassId) (ad : Nat → Nat) (N : Nat) (g : Nat → va_E) (hinj : ∀ i j : Nat, i < N → j < N → ad i = ad j → i = j) (hN : 114 ≤ N) (qc : Nat) (fc : Nat) (lf : Int32) (lt : Int32) (vc : Nat) (hX : g 0 = .inr (9, [.ref (ad 1), .ref (ad 17), .ref (ad 33), .ref (ad 34), .int (nI (qc)), .ref (ad 35), .ref (ad 45), .ref (ad 47), .ref (ad 52), .int (nI (fc)), .int lf, .int lt, .ref (ad 53), .int (nI (vc)), .ref (ad 54), .ref (ad 75)])) (len : Nat) (rd : Nat) (kd : Nat) (pl0 : Nat) (vl : Int32) (T : Nat → Nat) (hg : g 45 = .inr (5, [.ref (ad 46), .int (nI (len)), .int (nI (rd)), .int (nI (kd)), .int (nI (pl0)), .int vl])) (hgt : g 46 = .inl (cy 0, 160, .inl (fun x9 => sb_b (T x9)))) (hlen : len ≤ 160) (hT : ∀ i, T i < 256) (vv : Nat) (hvv : vv < 2 ^ 64) : Met l yX9_feed (WS yX9_feed cX9_feed 3 (some .int)) (rmF 1 23) (PP [.ref (ad 0), .long (lN vv)] D cy ad N g) (QI (fun r g1 => (r = if len + 8 ≤ 160 then nI (len + 8) else -3) ∧ g1 45 = .inr (5, [.ref (ad 46), .int (nI ((if len + 8 ≤ 160 then len + 8 else len))), .int (nI (rd)), .int (nI (kd)), .int (nI (pl0)), .int vl]) ∧ g1 46 = .inl (cy 0, 160, .inl (fun x9 => sb_b (((if len + 8 ≤ 160 then feT T len vv 8 else T)) x9))) ∧ (∀ j, j ≠ 45 → j ≠ 46 → g1 j = g j)) D ad N) 0 0 (AA ad N) := by
  refine mentry (by decide) (Nat.le_of_ble_eq_true rfl) (fun p e s m below meth c ls S hr hlk hnm hP hK hl => ?_)
  have S : CallFix p m c cX9_feed 3 s _ wsL_law RX9 := S
  have hx := S.1
  have hb := S.2.1
  have hl : lv_has ls 3 [(0, .ref (ad 0)), (1, .long (lN vv))] := hl
  have hI : MD (AA ad N) ad N := MD.in hinj
  have hS : va_S (AA ad N) s.heap s.heap [] := va_S.rf
  have hfr : ∀ j : Nat, g j = g j := fun _ => rfl
  refine lv_aload_n hx hb dX9_feed_0 rfl (lv_at hl 0 rfl) ?_
  refine mg S hK hP (by omega) hX fd_X9_40 rfl dX9_feed_1 ?_
  refine lv_lload_n hx hb dX9_feed_4 rfl (lv_at hl 1 rfl) ?_
  refine kMi (As := [.long (lN vv)]) (rest := []) S hK hP hS (fun _ h => h) (c_X5_append l D cy ad N g hinj 45 (by omega) 46 (by omega) len rd kd pl0 vl T hg hgt (by omega) hlen hT vv hvv) cv_X9_167 (by omega) hg ⟨_, _, rfl⟩ ⟨rfl, rfl⟩ rfl hl.1 rfl (Nat.le_of_ble_eq_true rfl) ⟨Nat.zero_le _, Nat.zero_le _⟩ dX9_feed_5 (fun r_5 g_1 H locs q_1 hP hS => ?_)
  obtain ⟨q_5, h45_1, h46_1, f_1⟩ := q_1
  subst q_5
  have h0_1 : g_1 0 = .inr (9, [.ref (ad 1), .ref (ad 17), .ref (ad 33), .ref (ad 34), .int (nI (qc)), .ref (ad 35), .ref (ad 45), .ref (ad 47), .ref (ad 52), .int (nI (fc)), .int lf, .int lt, .ref (ad 53), .int (nI (vc)), .ref (ad 54), .ref (ad 75)]) := (f_1 0 (by omega) (by omega)).trans hX
  have hfr_1 : ∀ j : Nat, j ≠ 45 → j ≠ 46 → g_1 j = g j := fun j n0 n1 => (f_1 j n0 n1).trans (hfr j )
  refine lv_if_eq (tgt := 21) hx hb dX9_feed_8 (by decide) (fun c_8 => ?_) (fun c_8 => ?_)
  · skip
    have c_8 := bz_eq.mp c_8
    refine lv_bipush (v := (-3)) hx hb dX9_feed_21 (by decide) ?_
    exact rMi S hr hlk hP hS ⟨(if_neg c_8).symm, h45_1, h46_1, hfr_1⟩ dX9_feed_23
  · skip
    have c_8 := bz_ne.mp c_8
    refine lv_aload_n hx hb dX9_feed_11 rfl (lv_at hl 0 rfl) ?_
    refine mg S hK hP (by omega) h0_1 fd_X9_40 rfl dX9_feed_12 ?_
    refine mg S hK hP (by omega) h45_1 fd_X9_171 rfl dX9_feed_15 ?_
    refine lv_goto (tgt := 23) hx hb dX9_feed_18 (by decide) ?_
    exact rMi S hr hlk hP hS ⟨(by rw [if_pos c_8, if_pos c_8]), h45_1, h46_1, hfr_1⟩ dX9_feed_23
set_option maxHeartbeats 4000000 in
set_option maxRecDepth 100000 in
theorem c_X9_end (l : Launch) (D : va_G) (cy : Nat → ClassId) (ad : Nat → Nat) (N : Nat) (g : Nat → va_E) (hinj : ∀ i j : Nat, i < N → j < N → ad i = ad j → i = j) (hN : 114 ≤ N) (qc : Nat) (fc : Nat) (lf : Int32) (lt : Int32) (vc : Nat) (hX : g 0 = .inr (9, [.ref (ad 1), .ref (ad 17), .ref (ad 33), .ref (ad 34), .int (nI (qc)), .ref (ad 35), .ref (ad 45), .ref (ad 47), .ref (ad 52), .int (nI (fc)), .int lf, .int lt, .ref (ad 53), .int (nI (vc)), .ref (ad 54), .ref (ad 75)])) (len : Nat) (rd : Nat) (kd : Nat) (pl0 : Nat) (vl : Int32) (T : Nat → Nat) (hg : g 45 = .inr (5, [.ref (ad 46), .int (nI (len)), .int (nI (rd)), .int (nI (kd)), .int (nI (pl0)), .int vl])) (hgt : g 46 = .inl (cy 0, 160, .inl (fun x9 => sb_b (T x9)))) (hlen : len ≤ 160) (hT : ∀ i, T i < 256) (x0 : Int32) : Met l yX9_end (WS yX9_end cX9_end 3 (some .int)) (rmF 0 0) (PP [.ref (ad 0), .int x0] D cy ad N g) (QI (fun r g1 => (r = if isI x0 (len + 1) then nI len else -1) ∧ g1 45 = .inr (5, [.ref (ad 46), .int (nI ((if isI x0 (len + 1) then x0.toNatClampNeg else len))), .int (nI (rd)), .int (nI (kd)), .int (nI (pl0)), .int vl]) ∧ (∀ j, j ≠ 45 → g1 j = g j)) D ad N) 0 0 (AA ad N) := by
  refine mentry (by decide) (Nat.le_of_ble_eq_true rfl) (fun p e s m below meth c ls S hr hlk hnm hP hK hl => ?_)
  have S : CallFix p m c cX9_end 3 s _ wsL_law RX9 := S
  have hx := S.1
  have hb := S.2.1
  have hl : lv_has ls 3 [(0, .ref (ad 0)), (1, .int x0)] := hl
  have hI : MD (AA ad N) ad N := MD.in hinj
  have hS : va_S (AA ad N) s.heap s.heap [] := va_S.rf
  have hfr : ∀ j : Nat, g j = g j := fun _ => rfl
  refine lv_aload_n hx hb dX9_end_0 rfl (lv_at hl 0 rfl) ?_
  refine mg S hK hP (by omega) hX fd_X9_40 rfl dX9_end_1 ?_
  refine mg S hK hP (by omega) hg fd_X9_171 rfl dX9_end_4 ?_
  refine lv_istore_n (lv' := [(2, .int (nI (len))), (0, .ref (ad 0)), (1, .int x0)]) hx hb dX9_end_7 rfl hl (by decide) rfl (fun ls hl => ?_)
  refine lv_iload_n hx hb dX9_end_8 rfl (lv_at hl 2 rfl) ?_
  refine lv_if_lt (tgt := 17) hx hb dX9_end_9 (by decide) (fun c_9 => ?_) (fun c_9 => ?_)
  · skip
    have hJ : ¬ isI x0 (len + 1) := fun q => q.1 c_9
    refine lv_iconst (v := (-1)) hx hb dX9_end_17 (by decide) ?_
    exact rMi S hr hlk hP hS ⟨(if_neg hJ).symm, (by rw [if_neg hJ]; exact hg), (fun j n0 => hfr j )⟩ dX9_end_18
  · skip
    obtain ⟨i, hib, rfl⟩ := nI_of c_9
    refine lv_iload_n hx hb dX9_end_12 rfl (lv_at hl 2 rfl) ?_
    refine lv_iload_n hx hb dX9_end_13 rfl (lv_at hl 0 rfl) ?_
    refine lv_icmp_le (tgt := 19) hx hb dX9_end_14 (by decide) (fun c_14 => ?_) (fun c_14 => ?_)
    · skip
      have c_14 := (nI_leI (by omega) (by omega)).mp c_14
      have hJ : isI (nI i) (len + 1) := (isI_nI (by omega) (by omega)).mpr (by omega)
      refine lv_aload_n hx hb dX9_end_19 rfl (lv_at hl 1 rfl) ?_
      refine mg S hK hP (by omega) hX fd_X9_40 rfl dX9_end_20 ?_
      refine lv_iload_n hx hb dX9_end_23 rfl (lv_at hl 2 rfl) ?_
      refine mp S hK hP hI hS (by omega) hg fd_X9_171 rfl rfl (Nat.le_of_ble_eq_true rfl) dX9_end_24 (fun g_1 H locs eg_1 hP hS => ?_)
      have h45_1 : g_1 45 = .inr (5, [.ref (ad 46), .int (nI (i)), .int (nI (rd)), .int (nI (kd)), .int (nI (pl0)), .int vl]) := by rw [eg_1, va_up_self]; exact rfl
      have h0_1 : g_1 0 = .inr (9, [.ref (ad 1), .ref (ad 17), .ref (ad 33), .ref (ad 34), .int (nI (qc)), .ref (ad 35), .ref (ad 45), .ref (ad 47), .ref (ad 52), .int (nI (fc)), .int lf, .int lt, .ref (ad 53), .int (nI (vc)), .ref (ad 54), .ref (ad 75)]) := ((congrFun eg_1 _).trans (va_up_ne _ _ (by omega))).trans hX
      have h46_1 : g_1 46 = .inl (cy 0, 160, .inl (fun x9 => sb_b (T x9))) := ((congrFun eg_1 _).trans (va_up_ne _ _ (by omega))).trans hgt
      have hfr_1 : ∀ j : Nat, j ≠ 45 → g_1 j = g j := fun j n0 => ((congrFun eg_1 _).trans (va_up_ne _ _ n0)).trans (hfr j )
      refine lv_iload_n hx hb dX9_end_27 rfl (lv_at hl 0 rfl) ?_
      exact rMi S hr hlk hP hS ⟨(if_pos hJ).symm, (by rw [if_pos hJ, nI_clamp (by omega)]; exact h45_1), hfr_1⟩ dX9_end_28
    · skip
      have c_14 := (not_congr (nI_leI (by omega) (by omega))).mp c_14
      have hJ : ¬ isI (nI i) (len + 1) := fun q => absurd ((isI_nI (by omega) (by omega)).mp q) (by omega)
      refine lv_iconst (v := (-1)) hx hb dX9_end_17 (by decide) ?_
      exact rMi S hr hlk hP hS ⟨(if_neg hJ).symm, (by rw [if_neg hJ]; exact hg), (fun j n0 => hfr j )⟩ dX9_end_18


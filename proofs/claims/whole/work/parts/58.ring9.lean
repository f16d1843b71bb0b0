set_option maxHeartbeats 4000000 in
set_option maxRecDepth 100000 in
theorem c_X9_alike (l : Launch) (D : va_G) (cy : Nat → ClassId) (ad : Nat → Nat) (N : Nat) (g : Nat → va_E) (hN : 114 ≤ N) (qc : Nat) (fc : Nat) (lf : Int32) (lt : Int32) (vc : Nat) (hX : g 0 = .inr (9, [.ref (ad 1), .ref (ad 17), .ref (ad 33), .ref (ad 34), .int (nI (qc)), .ref (ad 35), .ref (ad 45), .ref (ad 47), .ref (ad 52), .int (nI (fc)), .int lf, .int lt, .ref (ad 53), .int (nI (vc)), .ref (ad 54), .ref (ad 75)])) (nx0 : Nat) (un : Nat) (rf : Int32) (hg : g 1 = .inr (1, [.ref (ad (1 + 1)), .ref (ad (1 + 2)), .int (nI (nx0)), .int (nI (un)), .int rf])) (w : WT) (hgn : g (1 + 1) = .inr (8, [.int (nI (wn w)), .long (lN (sea (wd w) (wn w))), .int (nI (wf w)), .int (nI (wh w)), .long (lN (wo w))])) (fa : Nat → Option Nat) (hga : g (1 + 2) = .inl (cy 6, 13, .inr (.inr (.inr (.inr fa))))) (hfa : ∀ j, j < 13 → fa j = some (ad (1 + 3 + j))) (Pw : Nat → WT) (hfam : (∀ j : Nat, j < 13 → g (1 + 3 + j) = .inr (8, [.int (nI (wn (Pw j))), .long (lN (sea (wd (Pw j)) (wn (Pw j)))), .int (nI (wf (Pw j))), .int (nI (wh (Pw j))), .long (lN (wo (Pw j)))]))) (hnx : nx0 < 13) (hun : un ≤ 12) (hw : WOK w) (hPw : ∀ j, j < 13 → WOK (Pw j)) (pa : Nat → Option Nat) (hpa : g 34 = .inl (cy 6, 6, .inr (.inr (.inr (.inr pa))))) (hqc : qc ≤ 6) (hpj : ∀ j, j < 6 → pa j = some (ad (76 + j))) (Po : Nat → WT) (hPo : (∀ j : Nat, j < 6 → g (76 + j) = .inr (8, [.int (nI (wn (Po j))), .long (lN (sea (wd (Po j)) (wn (Po j)))), .int (nI (wf (Po j))), .int (nI (wh (Po j))), .long (lN (wo (Po j)))]))) (hPok : ∀ j, j < 6 → WOK (Po j)) (hPn : ∀ j, j < qc → wn (Po j) = wn w) (x0 : Int32) : Met l yX9_alike (WS yX9_alike cX9_alike 2 (some .int)) (rmF 4 82) (PP [.ref (ad 0), .int x0] D cy ad N g) (vp_Si (fun r => r = if isI x0 qc then alA w (Po x0.toNatClampNeg) else -1)) 0 0 (fun _ => False) := by
  refine mentry (by decide) (Nat.le_of_ble_eq_true rfl) (fun p e s m below meth c ls S hr hlk hnm hP hK hl => ?_)
  have S : CallFix p m c cX9_alike 2 s _ wsL_law RX9 := S
  have hx := S.1
  have hb := S.2.1
  have hl : lv_has ls 2 [(0, .ref (ad 0)), (1, .int x0)] := hl
  have hn4 := hw.1.1
  have hn8 := hw.1.2
  have hpm := hw.2.1
  have hda := hpm.1
  have hf := lt256 hw.2.2.1 hn8
  have hh := lt256 hw.2.2.2.1 hn8
  have ho := hw.2.2.2.2.1
  refine lv_aload_n hx hb dX9_alike_0 rfl (lv_at hl 0 rfl) ?_
  refine lv_iload_n hx hb dX9_alike_1 rfl (lv_at hl 1 rfl) ?_
  refine kVi (As := [.int x0]) (rest := []) S hK hP (c_X9_isPose l D cy ad N g (by omega) qc fc lf lt vc hX pa hpa hqc x0) cv_X9_231 (by omega) hX ⟨_, _, rfl⟩ ⟨rfl, rfl⟩ rfl hl.1 rfl (Nat.le_of_ble_eq_true rfl) ⟨Nat.zero_le _, Nat.zero_le _⟩ dX9_alike_2 (fun r_2 q_2 => ?_)
  subst q_2
  refine lv_if_ne (tgt := 10) hx hb dX9_alike_5 (by decide) (fun c_5 => ?_) (fun c_5 => ?_)
  · skip
    have c_5 := bz_ne.mp c_5
    have hJ := c_5
    obtain ⟨i, hib, rfl⟩ := isI_nat (by omega) c_5
    have hib9 : i < 2 ^ 31 := by omega
    have hPoi := hPok i (by omega)
    have hPni := hPn i (by omega)
    refine lv_aload_n hx hb dX9_alike_10 rfl (lv_at hl 0 rfl) ?_
    refine mg S hK hP (by omega) hX fd_X9_10 rfl dX9_alike_11 ?_
    refine mg S hK hP (by omega) hg fd_X9_79 rfl dX9_alike_14 ?_
    refine lv_aload_n hx hb dX9_alike_17 rfl (lv_at hl 0 rfl) ?_
    refine mg S hK hP (by omega) hX fd_X9_26 rfl dX9_alike_18 ?_
    refine lv_iload_n hx hb dX9_alike_21 rfl (lv_at hl 1 rfl) ?_
    have hq9_0 : i < 6 := by omega
    have hfc_1 : g (76 + i) = .inr (8, [.int (nI (wn (Po i))), .long (lN (sea (wd (Po i)) (wn (Po i)))), .int (nI (wf (Po i))), .int (nI (wh (Po i))), .long (lN (wo (Po i)))]) := hPo i hq9_0
    refine mial7 S hK hP (by omega) hpa rfl (vp_in_nI (by omega) (by omega)) (a := ad (76 + i)) ((congrArg pa (nI_clamp (by omega))).trans (hpj _ hq9_0)) dX9_alike_22 ?_
    refine kVi (As := [.ref (ad (76 + i))]) (rest := []) S hK hP (c_X8_isAs l D cy ad N g (1 + 1) (by omega) (wn w) (wd w) (wf w) (wh w) (wo w) hgn (76 + i) (by omega) (wn (Po i)) (wd (Po i)) (wf (Po i)) (wh (Po i)) (wo (Po i)) hfc_1 hw.1.1 hw.1.2 hw.2.1.1 hw.2.2.2.2.1 (lt256 hw.2.2.1 hw.1.2) (lt256 hPoi.2.2.1 hPoi.1.2) (lt256 hw.2.2.2.1 hw.1.2) (lt256 hPoi.2.2.2.1 hPoi.1.2) hPoi.2.2.2.2.1 hPoi.1.1 hPoi.1.2 hPoi.2.1.1) cv_X9_227 (by omega) hgn ⟨_, _, rfl⟩ ⟨rfl, rfl⟩ rfl hl.1 rfl (Nat.le_of_ble_eq_true rfl) ⟨Nat.zero_le _, Nat.zero_le _⟩ dX9_alike_23 (fun r_23 q_23 => ?_)
    subst q_23
    refine lv_if_eq (tgt := 31) hx hb dX9_alike_26 (by decide) (fun c_26 => ?_) (fun c_26 => ?_)
    · skip
      have c_26 := bz_eq.mp c_26
      refine lv_aload_n hx hb dX9_alike_31 rfl (lv_at hl 0 rfl) ?_
      refine mg S hK hP (by omega) hX fd_X9_10 rfl dX9_alike_32 ?_
      refine mg S hK hP (by omega) hg fd_X9_79 rfl dX9_alike_35 ?_
      refine lv_aload_n hx hb dX9_alike_38 rfl (lv_at hl 0 rfl) ?_
      refine mg S hK hP (by omega) hX fd_X9_26 rfl dX9_alike_39 ?_
      refine lv_iload_n hx hb dX9_alike_42 rfl (lv_at hl 1 rfl) ?_
      have hq9_1 : i < 6 := by omega
      have hfc_2 : g (76 + i) = .inr (8, [.int (nI (wn (Po i))), .long (lN (sea (wd (Po i)) (wn (Po i)))), .int (nI (wf (Po i))), .int (nI (wh (Po i))), .long (lN (wo (Po i)))]) := hPo i hq9_1
      refine mial7 S hK hP (by omega) hpa rfl (vp_in_nI (by omega) (by omega)) (a := ad (76 + i)) ((congrArg pa (nI_clamp (by omega))).trans (hpj _ hq9_1)) dX9_alike_43 ?_
      have hpw_3 : g (76 + i) = .inr (8, [.int (nI (wn w)), .long (lN (sea (wd (Po i)) (wn w))), .int (nI (wf (Po i))), .int (nI (wh (Po i))), .long (lN (wo (Po i)))]) := by rw [← hPni]; exact hfc_2
      refine kVi (As := [.ref (ad (76 + i))]) (rest := []) S hK hP (c_X8_isAlike l D cy ad N g (1 + 1) (by omega) (wn w) (wd w) (wf w) (wh w) (wo w) hgn (76 + i) (by omega) (wd (Po i)) (wf (Po i)) (wh (Po i)) (wo (Po i)) hpw_3 (wp w) (wp (Po i)) hn4 hn8 hpm (by rw [← hPni]; exact hPoi.2.1) ho hf (lt256 hPoi.2.2.1 hPoi.1.2) hh (lt256 hPoi.2.2.2.1 hPoi.1.2) hPoi.2.2.2.2.1) cv_X9_234 (by omega) hgn ⟨_, _, rfl⟩ ⟨rfl, rfl⟩ rfl hl.1 rfl (Nat.le_of_ble_eq_true rfl) ⟨Nat.zero_le _, Nat.zero_le _⟩ dX9_alike_44 (fun r_44 q_44 => ?_)
      subst q_44
      refine lv_if_eq (tgt := 54) hx hb dX9_alike_47 (by decide) (fun c_47 => ?_) (fun c_47 => ?_)
      · skip
        have c_47 := bz_eq.mp c_47
        refine lv_iconst (v := nI (0)) hx hb dX9_alike_54 (by decide) ?_
        exact rSi S hr hlk (by rw [if_pos hJ, nI_clamp hib9]; unfold alA; rw [if_neg c_26, if_neg c_47]; rfl) dX9_alike_55
      · skip
        have c_47 := bz_ne.mp c_47
        refine lv_iconst (v := nI (1)) hx hb dX9_alike_50 (by decide) ?_
        refine lv_goto (tgt := 55) hx hb dX9_alike_51 (by decide) ?_
        exact rSi S hr hlk (by rw [if_pos hJ, nI_clamp hib9]; unfold alA; rw [if_neg c_26, if_pos c_47]; rfl) dX9_alike_55
    · skip
      have c_26 := bz_ne.mp c_26
      refine lv_iconst (v := nI (2)) hx hb dX9_alike_29 (by decide) ?_
      exact rSi S hr hlk (by rw [if_pos hJ, nI_clamp hib9]; unfold alA; rw [if_pos c_26]; rfl) dX9_alike_30
  · skip
    have c_5 := bz_eq.mp c_5
    have hJ : ¬ isI x0 qc := c_5
    refine lv_iconst (v := (-1)) hx hb dX9_alike_8 (by decide) ?_
    exact rSi S hr hlk (if_neg hJ).symm dX9_alike_9
set_option maxHeartbeats 4000000 in
set_option maxRecDepth 100000 in
theorem c_X9_sheet (l : Launch) (D : va_G) (cy : Nat → ClassId) (ad : Nat → Nat) (N : Nat) (g : Nat → va_E) (hinj : ∀ i j : Nat, i < N → j < N → ad i = ad j → i = j) (hN : 114 ≤ N) (qc : Nat) (fc : Nat) (lf : Int32) (lt : Int32) (vc : Nat) (hX : g 0 = .inr (9, [.ref (ad 1), .ref (ad 17), .ref (ad 33), .ref (ad 34), .int (nI (qc)), .ref (ad 35), .ref (ad 45), .ref (ad 47), .ref (ad 52), .int (nI (fc)), .int lf, .int lt, .ref (ad 53), .int (nI (vc)), .ref (ad 54), .ref (ad 75)])) (sf : Nat → Option Nat) (hsf : g 75 = .inl (cy 4, 4, .inr (.inr (.inr (.inr sf))))) (hsj : ∀ j, j < 4 → sf j = some (ad (106 + 2 * j))) (Sh : Nat → Int32 × Nat) (SK : Nat → Nat → Int32) (hSo : (∀ j : Nat, j < 4 → g (106 + 2 * j) = .inr (4, [.ref (ad (106 + 2 * j + 1)), .int ((Sh j).1), .int (nI ((Sh j).2))]))) (hSk : (∀ j : Nat, j < 4 → g (106 + 2 * j + 1) = .inl (cy 1, 60, .inl (SK j)))) (hSz : ∀ j, (Sh j).2 ≤ 60) (x0 : Int32) (y0 : Int32) (z0 : Int32) : Met l yX9_sheet (WS yX9_sheet cX9_sheet 4 (some .int)) (rmF 2 45) (PP [.ref (ad 0), .int x0, .int y0, .int z0] D cy ad N g) (QI (fun r g1 => (r = if isI x0 4 ∧ isI y0 3 ∧ ¬ nI 60 < z0 then (if z0 < 0 then -14 else 1) else -1) ∧ (∀ j : Nat, j < 4 → g1 (106 + 2 * j) = .inr (4, [.ref (ad (106 + 2 * j + 1)), .int ((((if (isI x0 4 ∧ isI y0 3 ∧ isI z0 61) then va_up Sh x0.toNatClampNeg (y0, z0.toNatClampNeg) else Sh)) j).1), .int (nI ((((if (isI x0 4 ∧ isI y0 3 ∧ isI z0 61) then va_up Sh x0.toNatClampNeg (y0, z0.toNatClampNeg) else Sh)) j).2))])) ∧ (∀ j : Nat, j < 4 → g1 (106 + 2 * j + 1) = .inl (cy 1, 60, .inl (((if (isI x0 4 ∧ isI y0 3 ∧ isI z0 61) then va_up SK x0.toNatClampNeg (flC 60 0 (SK x0.toNatClampNeg)) else SK)) j))) ∧ (∀ j, (j < 106 ∨ 114 ≤ j) → g1 j = g j)) D ad N) 0 0 (AA ad N) := by
  refine mentry (by decide) (Nat.le_of_ble_eq_true rfl) (fun p e s m below meth c ls S hr hlk hnm hP hK hl => ?_)
  have S : CallFix p m c cX9_sheet 4 s _ wsL_law RX9 := S
  have hx := S.1
  have hb := S.2.1
  have hl : lv_has ls 4 [(0, .ref (ad 0)), (1, .int x0), (2, .int y0), (3, .int z0)] := hl
  have hI : MD (AA ad N) ad N := MD.in hinj
  have hS : va_S (AA ad N) s.heap s.heap [] := va_S.rf
  have hfr : ∀ j : Nat, g j = g j := fun _ => rfl
  refine lv_aload_n hx hb dX9_sheet_0 rfl (lv_at hl 0 rfl) ?_
  refine lv_iload_n hx hb dX9_sheet_1 rfl (lv_at hl 1 rfl) ?_
  refine kVi (As := [.int x0]) (rest := []) S hK hP (c_X9_isSheet l D cy ad N g (by omega) qc fc lf lt vc hX sf hsf x0) cv_X9_273 (by omega) hX ⟨_, _, rfl⟩ ⟨rfl, rfl⟩ rfl hl.1 rfl (Nat.le_of_ble_eq_true rfl) ⟨Nat.zero_le _, Nat.zero_le _⟩ dX9_sheet_2 (fun r_2 q_2 => ?_)
  subst q_2
  refine lv_if_eq (tgt := 22) hx hb dX9_sheet_5 (by decide) (fun c_5 => ?_) (fun c_5 => ?_)
  · skip
    have c_5 := bz_eq.mp c_5
    have hQ9 : ¬ (isI x0 4 ∧ isI y0 3 ∧ ¬ nI 60 < z0) := fun q => c_5 q.1
    have hJ : ¬ (isI x0 4 ∧ isI y0 3 ∧ isI z0 61) := fun q => c_5 q.1
    refine lv_iconst (v := (-1)) hx hb dX9_sheet_22 (by decide) ?_
    exact rMi S hr hlk hP hS ⟨(if_neg hQ9).symm, (by simp only [if_neg hJ]; exact hSo), (by simp only [if_neg hJ]; exact hSk), (fun j n0 => hfr j )⟩ dX9_sheet_23
  · skip
    have c_5 := bz_ne.mp c_5
    have hJ1 := c_5
    obtain ⟨i, hib, rfl⟩ := isI_nat (by omega) c_5
    have hib9 : i < 2 ^ 31 := by omega
    refine lv_aload_n hx hb dX9_sheet_8 rfl (lv_at hl 0 rfl) ?_
    refine lv_iload_n hx hb dX9_sheet_9 rfl (lv_at hl 2 rfl) ?_
    refine kVi (As := [.int y0]) (rest := []) S hK hP (c_X9_isLane l D cy ad N g 0 y0) cv_X9_276 (by omega) hX ⟨_, _, rfl⟩ ⟨rfl, rfl⟩ rfl hl.1 rfl (Nat.le_of_ble_eq_true rfl) ⟨Nat.zero_le _, Nat.zero_le _⟩ dX9_sheet_10 (fun r_10 q_10 => ?_)
    subst q_10
    refine lv_if_eq (tgt := 22) hx hb dX9_sheet_13 (by decide) (fun c_13 => ?_) (fun c_13 => ?_)
    · skip
      have c_13 := bz_eq.mp c_13
      have hQ9 : ¬ (isI (nI i) 4 ∧ isI y0 3 ∧ ¬ nI 60 < z0) := fun q => c_13 q.2.1
      have hJ : ¬ (isI (nI i) 4 ∧ isI y0 3 ∧ isI z0 61) := fun q => c_13 q.2.1
      refine lv_iconst (v := (-1)) hx hb dX9_sheet_22 (by decide) ?_
      exact rMi S hr hlk hP hS ⟨(if_neg hQ9).symm, (by simp only [if_neg hJ]; exact hSo), (by simp only [if_neg hJ]; exact hSk), (fun j n0 => hfr j )⟩ dX9_sheet_23
    · skip
      have c_13 := bz_ne.mp c_13
      have hJ2 := c_13
      refine lv_iload_n hx hb dX9_sheet_16 rfl (lv_at hl 3 rfl) ?_
      refine lv_bipush (v := nI (60)) hx hb dX9_sheet_17 (by decide) ?_
      refine lv_icmp_le (tgt := 24) hx hb dX9_sheet_19 (by decide) (fun c_19 => ?_) (fun c_19 => ?_)
      · skip
        have c_19 : ¬ nI 60 < z0 := Int32.not_lt.mpr c_19
        have hQ9 : (isI (nI i) 4 ∧ isI y0 3 ∧ ¬ nI 60 < z0) := ⟨hJ1, hJ2, c_19⟩
        refine lv_iload_n hx hb dX9_sheet_24 rfl (lv_at hl 3 rfl) ?_
        refine lv_if_ge (tgt := 31) hx hb dX9_sheet_25 (by decide) (fun c_25 => ?_) (fun c_25 => ?_)
        · skip
          have hz9 : ¬ z0 < 0 := Int32.not_lt.mpr c_25
          obtain ⟨zj, hzjb, rfl⟩ := nI_of hz9
          have hzj : zj ≤ 60 := Nat.not_lt.mp (fun q => c_19 ((nI_ltI (by omega) hzjb).mpr q))
          have hJ : (isI (nI i) 4 ∧ isI y0 3 ∧ isI (nI zj) 61) := ⟨hJ1, hJ2, (isI_nI hzjb (by omega)).mpr (by omega)⟩
          refine lv_aload_n hx hb dX9_sheet_31 rfl (lv_at hl 0 rfl) ?_
          refine mg S hK hP (by omega) hX fd_X9_72 rfl dX9_sheet_32 ?_
          refine lv_iload_n hx hb dX9_sheet_35 rfl (lv_at hl 1 rfl) ?_
          have hs9_1 : i < 4 := by omega
          have hfc_2 : g (106 + 2 * i + 1) = .inl (cy 1, 60, .inl (SK i)) := hSk i hs9_1
          have hfc_3 : g (106 + 2 * i) = .inr (4, [.ref (ad (106 + 2 * i + 1)), .int ((Sh i).1), .int (nI ((Sh i).2))]) := hSo i hs9_1
          refine mial7 S hK hP (by omega) hsf rfl (vp_in_nI (by omega) (by omega)) (a := ad (106 + 2 * i)) ((congrArg sf (nI_clamp (by omega))).trans (hsj _ hs9_1)) dX9_sheet_36 ?_
          refine lv_iload_n hx hb dX9_sheet_37 rfl (lv_at hl 2 rfl) ?_
          refine lv_iload_n hx hb dX9_sheet_38 rfl (lv_at hl 3 rfl) ?_
          refine kMv (As := [.int y0, .int (nI (zj))]) (rest := []) S hK hP hS (fun _ h => h) (c_X4_make l D cy ad N g hinj (106 + 2 * i) (by omega) (106 + 2 * i + 1) (by omega) ((Sh i).1) ((Sh i).2) (SK i) hfc_3 hfc_2 (by omega) (hSz i) y0 zj) cv_X9_279 (by omega) hfc_3 ⟨_, _, rfl⟩ ⟨rfl, rfl⟩ rfl hl.1 rfl (Nat.le_of_ble_eq_true rfl) ⟨Nat.zero_le _, Nat.zero_le _⟩ dX9_sheet_39 (fun g_4 H locs q_4 hP hS => ?_)
          obtain ⟨h_106___2___i__4, h_106___2___i___1__4, f_4⟩ := q_4
          have h0_4 : g_4 0 = .inr (9, [.ref (ad 1), .ref (ad 17), .ref (ad 33), .ref (ad 34), .int (nI (qc)), .ref (ad 35), .ref (ad 45), .ref (ad 47), .ref (ad 52), .int (nI (fc)), .int lf, .int lt, .ref (ad 53), .int (nI (vc)), .ref (ad 54), .ref (ad 75)]) := (f_4 0 (by omega) (by omega)).trans hX
          have h75_4 : g_4 75 = .inl (cy 4, 4, .inr (.inr (.inr (.inr sf)))) := (f_4 75 (by omega) (by omega)).trans hsf
          have hfam_SO_4 : (∀ j : Nat, j < 4 → g_4 (106 + 2 * j) = .inr (4, [.ref (ad (106 + 2 * j + 1)), .int (((va_up Sh i ((y0, zj))) j).1), .int (nI (((va_up Sh i ((y0, zj))) j).2))])) := fam_up (id := fun j => 106 + 2 * j) (cell := fun j (w9 : Int32 × Nat) => .inr (4, [.ref (ad (106 + 2 * j + 1)), .int w9.1, .int (nI (w9.2))])) (fun j hj e => (f_4 (106 + 2 * j) (by omega) (by omega)).trans (hSo j hj)) h_106___2___i__4
          have hfam_SC_4 : (∀ j : Nat, j < 4 → g_4 (106 + 2 * j + 1) = .inl (cy 1, 60, .inl ((va_up SK i (flC 60 0 (SK i))) j))) := fam_up (id := fun j => 106 + 2 * j + 1) (cell := fun j (w9 : Nat → Int32) => .inl (cy 1, 60, .inl w9)) (fun j hj e => (f_4 (106 + 2 * j + 1) (by omega) (by omega)).trans (hSk j hj)) h_106___2___i___1__4
          have hfr_4 : ∀ j : Nat, j ≠ (106 + 2 * i) → j ≠ (106 + 2 * i + 1) → g_4 j = g j := fun j n0 n1 => (f_4 j n0 n1).trans (hfr j )
          refine lv_iconst (v := nI (1)) hx hb dX9_sheet_42 (by decide) ?_
          exact rMi S hr hlk hP hS ⟨(by rw [if_pos hQ9, if_neg hz9]; rfl), (by simp only [if_pos hJ, nI_clamp hib9, nI_clamp hzjb]; exact hfam_SO_4), (by simp only [if_pos hJ, nI_clamp hib9, nI_clamp hzjb]; exact hfam_SC_4), (fun j n0 => hfr_4 j (by omega) (by omega))⟩ dX9_sheet_43
        · skip
          have hz8 : z0 < 0 := Int32.not_le.mp c_25
          have hJ : ¬ (isI (nI i) 4 ∧ isI y0 3 ∧ isI z0 61) := fun q => q.2.2.1 hz8
          refine lv_bipush (v := (-14)) hx hb dX9_sheet_28 (by decide) ?_
          exact rMi S hr hlk hP hS ⟨(by rw [if_pos hQ9, if_pos hz8]), (by simp only [if_neg hJ]; exact hSo), (by simp only [if_neg hJ]; exact hSk), (fun j n0 => hfr j )⟩ dX9_sheet_30
      · skip
        have hQ9 : ¬ (isI (nI i) 4 ∧ isI y0 3 ∧ ¬ nI 60 < z0) := fun q => q.2.2 (Int32.not_le.mp c_19)
        have hJ : ¬ (isI (nI i) 4 ∧ isI y0 3 ∧ isI z0 61) := fun q => by obtain ⟨zk, hzk, rfl⟩ := isI_nat (by omega) q.2.2; exact c_19 ((nI_leI (by omega) (by omega)).mpr (by omega))
        refine lv_iconst (v := (-1)) hx hb dX9_sheet_22 (by decide) ?_
        exact rMi S hr hlk hP hS ⟨(if_neg hQ9).symm, (by simp only [if_neg hJ]; exact hSo), (by simp only [if_neg hJ]; exact hSk), (fun j n0 => hfr j )⟩ dX9_sheet_23

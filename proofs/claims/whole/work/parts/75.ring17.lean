set_option maxHeartbeats 4000000 in
set_option maxRecDepth 100000 in
theorem c_X9_scan (l : Launch) (D : va_G) (cy : Nat → ClassId) (ad : Nat → Nat) (N : Nat) (g : Nat → va_E) (hinj : ∀ i j : Nat, i < N → j < N → ad i = ad j → i = j) (hN : 114 ≤ N) (qc : Nat) (fc : Nat) (lf : Int32) (lt : Int32) (vc : Nat) (hX : g 0 = .inr (9, [.ref (ad 1), .ref (ad 17), .ref (ad 33), .ref (ad 34), .int (nI (qc)), .ref (ad 35), .ref (ad 45), .ref (ad 47), .ref (ad 52), .int (nI (fc)), .int lf, .int lt, .ref (ad 53), .int (nI (vc)), .ref (ad 54), .ref (ad 75)])) (nx0 : Nat) (un : Nat) (rf : Int32) (hg : g 1 = .inr (1, [.ref (ad (1 + 1)), .ref (ad (1 + 2)), .int (nI (nx0)), .int (nI (un)), .int rf])) (w : WT) (hgn : g (1 + 1) = .inr (8, [.int (nI (wn w)), .long (lN (sea (wd w) (wn w))), .int (nI (wf w)), .int (nI (wh w)), .long (lN (wo w))])) (fa : Nat → Option Nat) (hga : g (1 + 2) = .inl (cy 6, 13, .inr (.inr (.inr (.inr fa))))) (hfa : ∀ j, j < 13 → fa j = some (ad (1 + 3 + j))) (Pw : Nat → WT) (hfam : (∀ j : Nat, j < 13 → g (1 + 3 + j) = .inr (8, [.int (nI (wn (Pw j))), .long (lN (sea (wd (Pw j)) (wn (Pw j)))), .int (nI (wf (Pw j))), .int (nI (wh (Pw j))), .long (lN (wo (Pw j)))]))) (hnx : nx0 < 13) (hun : un ≤ 12) (hw : WOK w) (hPw : ∀ j, j < 13 → WOK (Pw j)) (sf : Nat → Option Nat) (hsf : g 75 = .inl (cy 4, 4, .inr (.inr (.inr (.inr sf))))) (hsj : ∀ j, j < 4 → sf j = some (ad (106 + 2 * j))) (Sh : Nat → Int32 × Nat) (SK : Nat → Nat → Int32) (hSo : (∀ j : Nat, j < 4 → g (106 + 2 * j) = .inr (4, [.ref (ad (106 + 2 * j + 1)), .int ((Sh j).1), .int (nI ((Sh j).2))]))) (hSk : (∀ j : Nat, j < 4 → g (106 + 2 * j + 1) = .inl (cy 1, 60, .inl (SK j)))) (hSz : ∀ j, (Sh j).2 ≤ 60) (x0 : Int32) (y0 : Int32) (f0 : Int32) (z0 : Int32) : Met l yX9_scan (WS yX9_scan cX9_scan 9 (some .int)) (rmF 5 113) (PP [.ref (ad 0), .int x0, .int y0, .int f0, .int z0] D cy ad N g) (QI (fun r g1 => (r = (if (isI x0 4 ∧ isI y0 3 ∧ isI z0 31) then (if (Sh x0.toNatClampNeg).1 = -1 then (-11, (w, Pw, nx0, un)) else if (Sh x0.toNatClampNeg).1 = y0 then scA (SK x0.toNatClampNeg) (Sh x0.toNatClampNeg).2 f0 z0.toNatClampNeg z0.toNatClampNeg (w, Pw, nx0, un) 0 else (-13, (w, Pw, nx0, un))) else (-1, (w, Pw, nx0, un))).1) ∧ g1 1 = .inr (1, [.ref (ad (1 + 1)), .ref (ad (1 + 2)), .int (nI ((if (isI x0 4 ∧ isI y0 3 ∧ isI z0 31) then (if (Sh x0.toNatClampNeg).1 = -1 then (-11, (w, Pw, nx0, un)) else if (Sh x0.toNatClampNeg).1 = y0 then scA (SK x0.toNatClampNeg) (Sh x0.toNatClampNeg).2 f0 z0.toNatClampNeg z0.toNatClampNeg (w, Pw, nx0, un) 0 else (-13, (w, Pw, nx0, un))) else (-1, (w, Pw, nx0, un))).2.2.2.1)), .int (nI ((if (isI x0 4 ∧ isI y0 3 ∧ isI z0 31) then (if (Sh x0.toNatClampNeg).1 = -1 then (-11, (w, Pw, nx0, un)) else if (Sh x0.toNatClampNeg).1 = y0 then scA (SK x0.toNatClampNeg) (Sh x0.toNatClampNeg).2 f0 z0.toNatClampNeg z0.toNatClampNeg (w, Pw, nx0, un) 0 else (-13, (w, Pw, nx0, un))) else (-1, (w, Pw, nx0, un))).2.2.2.2)), .int rf]) ∧ g1 (1 + 1) = .inr (8, [.int (nI (wn ((if (isI x0 4 ∧ isI y0 3 ∧ isI z0 31) then (if (Sh x0.toNatClampNeg).1 = -1 then (-11, (w, Pw, nx0, un)) else if (Sh x0.toNatClampNeg).1 = y0 then scA (SK x0.toNatClampNeg) (Sh x0.toNatClampNeg).2 f0 z0.toNatClampNeg z0.toNatClampNeg (w, Pw, nx0, un) 0 else (-13, (w, Pw, nx0, un))) else (-1, (w, Pw, nx0, un))).2.1))), .long (lN (sea (wd ((if (isI x0 4 ∧ isI y0 3 ∧ isI z0 31) then (if (Sh x0.toNatClampNeg).1 = -1 then (-11, (w, Pw, nx0, un)) else if (Sh x0.toNatClampNeg).1 = y0 then scA (SK x0.toNatClampNeg) (Sh x0.toNatClampNeg).2 f0 z0.toNatClampNeg z0.toNatClampNeg (w, Pw, nx0, un) 0 else (-13, (w, Pw, nx0, un))) else (-1, (w, Pw, nx0, un))).2.1)) (wn ((if (isI x0 4 ∧ isI y0 3 ∧ isI z0 31) then (if (Sh x0.toNatClampNeg).1 = -1 then (-11, (w, Pw, nx0, un)) else if (Sh x0.toNatClampNeg).1 = y0 then scA (SK x0.toNatClampNeg) (Sh x0.toNatClampNeg).2 f0 z0.toNatClampNeg z0.toNatClampNeg (w, Pw, nx0, un) 0 else (-13, (w, Pw, nx0, un))) else (-1, (w, Pw, nx0, un))).2.1)))), .int (nI (wf ((if (isI x0 4 ∧ isI y0 3 ∧ isI z0 31) then (if (Sh x0.toNatClampNeg).1 = -1 then (-11, (w, Pw, nx0, un)) else if (Sh x0.toNatClampNeg).1 = y0 then scA (SK x0.toNatClampNeg) (Sh x0.toNatClampNeg).2 f0 z0.toNatClampNeg z0.toNatClampNeg (w, Pw, nx0, un) 0 else (-13, (w, Pw, nx0, un))) else (-1, (w, Pw, nx0, un))).2.1))), .int (nI (wh ((if (isI x0 4 ∧ isI y0 3 ∧ isI z0 31) then (if (Sh x0.toNatClampNeg).1 = -1 then (-11, (w, Pw, nx0, un)) else if (Sh x0.toNatClampNeg).1 = y0 then scA (SK x0.toNatClampNeg) (Sh x0.toNatClampNeg).2 f0 z0.toNatClampNeg z0.toNatClampNeg (w, Pw, nx0, un) 0 else (-13, (w, Pw, nx0, un))) else (-1, (w, Pw, nx0, un))).2.1))), .long (lN (wo ((if (isI x0 4 ∧ isI y0 3 ∧ isI z0 31) then (if (Sh x0.toNatClampNeg).1 = -1 then (-11, (w, Pw, nx0, un)) else if (Sh x0.toNatClampNeg).1 = y0 then scA (SK x0.toNatClampNeg) (Sh x0.toNatClampNeg).2 f0 z0.toNatClampNeg z0.toNatClampNeg (w, Pw, nx0, un) 0 else (-13, (w, Pw, nx0, un))) else (-1, (w, Pw, nx0, un))).2.1)))]) ∧ g1 (1 + 2) = .inl (cy 6, 13, .inr (.inr (.inr (.inr fa)))) ∧ (∀ j : Nat, j < 13 → g1 (1 + 3 + j) = .inr (8, [.int (nI (wn (((if (isI x0 4 ∧ isI y0 3 ∧ isI z0 31) then (if (Sh x0.toNatClampNeg).1 = -1 then (-11, (w, Pw, nx0, un)) else if (Sh x0.toNatClampNeg).1 = y0 then scA (SK x0.toNatClampNeg) (Sh x0.toNatClampNeg).2 f0 z0.toNatClampNeg z0.toNatClampNeg (w, Pw, nx0, un) 0 else (-13, (w, Pw, nx0, un))) else (-1, (w, Pw, nx0, un))).2.2.1) j))), .long (lN (sea (wd (((if (isI x0 4 ∧ isI y0 3 ∧ isI z0 31) then (if (Sh x0.toNatClampNeg).1 = -1 then (-11, (w, Pw, nx0, un)) else if (Sh x0.toNatClampNeg).1 = y0 then scA (SK x0.toNatClampNeg) (Sh x0.toNatClampNeg).2 f0 z0.toNatClampNeg z0.toNatClampNeg (w, Pw, nx0, un) 0 else (-13, (w, Pw, nx0, un))) else (-1, (w, Pw, nx0, un))).2.2.1) j)) (wn (((if (isI x0 4 ∧ isI y0 3 ∧ isI z0 31) then (if (Sh x0.toNatClampNeg).1 = -1 then (-11, (w, Pw, nx0, un)) else if (Sh x0.toNatClampNeg).1 = y0 then scA (SK x0.toNatClampNeg) (Sh x0.toNatClampNeg).2 f0 z0.toNatClampNeg z0.toNatClampNeg (w, Pw, nx0, un) 0 else (-13, (w, Pw, nx0, un))) else (-1, (w, Pw, nx0, un))).2.2.1) j)))), .int (nI (wf (((if (isI x0 4 ∧ isI y0 3 ∧ isI z0 31) then (if (Sh x0.toNatClampNeg).1 = -1 then (-11, (w, Pw, nx0, un)) else if (Sh x0.toNatClampNeg).1 = y0 then scA (SK x0.toNatClampNeg) (Sh x0.toNatClampNeg).2 f0 z0.toNatClampNeg z0.toNatClampNeg (w, Pw, nx0, un) 0 else (-13, (w, Pw, nx0, un))) else (-1, (w, Pw, nx0, un))).2.2.1) j))), .int (nI (wh (((if (isI x0 4 ∧ isI y0 3 ∧ isI z0 31) then (if (Sh x0.toNatClampNeg).1 = -1 then (-11, (w, Pw, nx0, un)) else if (Sh x0.toNatClampNeg).1 = y0 then scA (SK x0.toNatClampNeg) (Sh x0.toNatClampNeg).2 f0 z0.toNatClampNeg z0.toNatClampNeg (w, Pw, nx0, un) 0 else (-13, (w, Pw, nx0, un))) else (-1, (w, Pw, nx0, un))).2.2.1) j))), .long (lN (wo (((if (isI x0 4 ∧ isI y0 3 ∧ isI z0 31) then (if (Sh x0.toNatClampNeg).1 = -1 then (-11, (w, Pw, nx0, un)) else if (Sh x0.toNatClampNeg).1 = y0 then scA (SK x0.toNatClampNeg) (Sh x0.toNatClampNeg).2 f0 z0.toNatClampNeg z0.toNatClampNeg (w, Pw, nx0, un) 0 else (-13, (w, Pw, nx0, un))) else (-1, (w, Pw, nx0, un))).2.2.1) j)))])) ∧ (∀ j, (j < 1 ∨ 17 ≤ j) → g1 j = g j)) D ad N) 0 0 (AA ad N) := by
  refine mentry (by decide) (Nat.le_of_ble_eq_true rfl) (fun p e s m below meth c ls S hr hlk hnm hP hK hl => ?_)
  have S : CallFix p m c cX9_scan 9 s _ wsL_law RX9 := S
  have hx := S.1
  have hb := S.2.1
  have hl : lv_has ls 9 [(0, .ref (ad 0)), (1, .int x0), (2, .int y0), (3, .int f0), (4, .int z0)] := hl
  have hI : MD (AA ad N) ad N := MD.in hinj
  have hS : va_S (AA ad N) s.heap s.heap [] := va_S.rf
  have hfr : ∀ j : Nat, g j = g j := fun _ => rfl
  refine lv_aload_n hx hb dX9_scan_0 rfl (lv_at hl 0 rfl) ?_
  refine lv_iload_n hx hb dX9_scan_1 rfl (lv_at hl 1 rfl) ?_
  refine kVi (As := [.int x0]) (rest := []) S hK hP (c_X9_isSheet l D cy ad N g (by omega) qc fc lf lt vc hX sf hsf x0) cv_X9_273 (by omega) hX ⟨_, _, rfl⟩ ⟨rfl, rfl⟩ rfl hl.1 rfl (Nat.le_of_ble_eq_true rfl) ⟨Nat.zero_le _, Nat.zero_le _⟩ dX9_scan_2 (fun r_2 q_2 => ?_)
  subst q_2
  refine lv_if_eq (tgt := 28) hx hb dX9_scan_5 (by decide) (fun c_5 => ?_) (fun c_5 => ?_)
  · skip
    have c_5 := bz_eq.mp c_5
    have hE9 : (if (isI x0 4 ∧ isI y0 3 ∧ isI z0 31) then (if (Sh x0.toNatClampNeg).1 = -1 then (-11, (w, Pw, nx0, un)) else if (Sh x0.toNatClampNeg).1 = y0 then scA (SK x0.toNatClampNeg) (Sh x0.toNatClampNeg).2 f0 z0.toNatClampNeg z0.toNatClampNeg (w, Pw, nx0, un) 0 else (-13, (w, Pw, nx0, un))) else (-1, (w, Pw, nx0, un))) = (-1, (w, Pw, nx0, un)) := if_neg (fun q => c_5 q.1)
    refine lv_iconst (v := (-1)) hx hb dX9_scan_28 (by decide) ?_
    exact rMi S hr hlk hP hS ⟨(by rw [hE9]), (by rw [hE9]; exact hg), (by rw [hE9]; exact hgn), hga, (by rw [hE9]; exact hfam), (fun j n0 => hfr j )⟩ dX9_scan_29
  · skip
    have c_5 := bz_ne.mp c_5
    have hJ1 := c_5
    obtain ⟨i, hib, ei⟩ := isI_nat (by omega) c_5
    have hl : lv_has ls 9 [(0, .ref (ad 0)), (1, .int (nI (i))), (2, .int y0), (3, .int f0), (4, .int z0)] := by rw [ei] at hl; exact hl
    have hib9 : i < 2 ^ 31 := by omega
    have eix : x0.toNatClampNeg = i := by rw [ei, nI_clamp hib9]
    have hSzi := hSz i
    refine lv_aload_n hx hb dX9_scan_8 rfl (lv_at hl 0 rfl) ?_
    refine lv_iload_n hx hb dX9_scan_9 rfl (lv_at hl 2 rfl) ?_
    refine kVi (As := [.int y0]) (rest := []) S hK hP (c_X9_isLane l D cy ad N g 0 y0) cv_X9_276 (by omega) hX ⟨_, _, rfl⟩ ⟨rfl, rfl⟩ rfl hl.1 rfl (Nat.le_of_ble_eq_true rfl) ⟨Nat.zero_le _, Nat.zero_le _⟩ dX9_scan_10 (fun r_10 q_10 => ?_)
    subst q_10
    refine lv_if_eq (tgt := 28) hx hb dX9_scan_13 (by decide) (fun c_13 => ?_) (fun c_13 => ?_)
    · skip
      have c_13 := bz_eq.mp c_13
      have hE9 : (if (isI x0 4 ∧ isI y0 3 ∧ isI z0 31) then (if (Sh x0.toNatClampNeg).1 = -1 then (-11, (w, Pw, nx0, un)) else if (Sh x0.toNatClampNeg).1 = y0 then scA (SK x0.toNatClampNeg) (Sh x0.toNatClampNeg).2 f0 z0.toNatClampNeg z0.toNatClampNeg (w, Pw, nx0, un) 0 else (-13, (w, Pw, nx0, un))) else (-1, (w, Pw, nx0, un))) = (-1, (w, Pw, nx0, un)) := if_neg (fun q => c_13 q.2.1)
      refine lv_iconst (v := (-1)) hx hb dX9_scan_28 (by decide) ?_
      exact rMi S hr hlk hP hS ⟨(by rw [hE9]), (by rw [hE9]; exact hg), (by rw [hE9]; exact hgn), hga, (by rw [hE9]; exact hfam), (fun j n0 => hfr j )⟩ dX9_scan_29
    · skip
      have c_13 := bz_ne.mp c_13
      refine lv_iload hx hb dX9_scan_16 (lv_at hl 4 rfl) ?_
      refine lv_if_lt (tgt := 28) hx hb dX9_scan_18 (by decide) (fun c_18 => ?_) (fun c_18 => ?_)
      · skip
        have hE9 : (if (isI x0 4 ∧ isI y0 3 ∧ isI z0 31) then (if (Sh x0.toNatClampNeg).1 = -1 then (-11, (w, Pw, nx0, un)) else if (Sh x0.toNatClampNeg).1 = y0 then scA (SK x0.toNatClampNeg) (Sh x0.toNatClampNeg).2 f0 z0.toNatClampNeg z0.toNatClampNeg (w, Pw, nx0, un) 0 else (-13, (w, Pw, nx0, un))) else (-1, (w, Pw, nx0, un))) = (-1, (w, Pw, nx0, un)) := if_neg (fun q => q.2.2.1 c_18)
        refine lv_iconst (v := (-1)) hx hb dX9_scan_28 (by decide) ?_
        exact rMi S hr hlk hP hS ⟨(by rw [hE9]), (by rw [hE9]; exact hg), (by rw [hE9]; exact hgn), hga, (by rw [hE9]; exact hfam), (fun j n0 => hfr j )⟩ dX9_scan_29
      · skip
        obtain ⟨zn, hznb9, ezn⟩ := nI_of c_18
        have hl : lv_has ls 9 [(0, .ref (ad 0)), (1, .int (nI (i))), (2, .int y0), (3, .int f0), (4, .int (nI (zn)))] := by rw [ezn] at hl; exact hl
        have eznx : z0.toNatClampNeg = zn := by rw [ezn, nI_clamp hznb9]
        refine lv_iload hx hb dX9_scan_21 (lv_at hl 4 rfl) ?_
        refine lv_bipush (v := nI (30)) hx hb dX9_scan_23 (by decide) ?_
        refine lv_icmp_le (tgt := 30) hx hb dX9_scan_25 (by decide) (fun c_25 => ?_) (fun c_25 => ?_)
        · skip
          have c_25 := (nI_leI (by omega) (by omega)).mp c_25
          have hJ : (isI x0 4 ∧ isI y0 3 ∧ isI z0 31) := ⟨hJ1, c_13, by rw [ezn]; exact (isI_nI (by omega) (by omega)).mpr (by omega)⟩
          refine lv_aload_n hx hb dX9_scan_30 rfl (lv_at hl 0 rfl) ?_
          refine mg S hK hP (by omega) hX fd_X9_72 rfl dX9_scan_31 ?_
          refine lv_iload_n hx hb dX9_scan_34 rfl (lv_at hl 1 rfl) ?_
          have hs9_1 : i < 4 := by omega
          have hfc_2 : g (106 + 2 * i + 1) = .inl (cy 1, 60, .inl (SK i)) := hSk i hs9_1
          have hfc_3 : g (106 + 2 * i) = .inr (4, [.ref (ad (106 + 2 * i + 1)), .int ((Sh i).1), .int (nI ((Sh i).2))]) := hSo i hs9_1
          refine mial7 S hK hP (by omega) hsf rfl (vp_in_nI (by omega) (by omega)) (a := ad (106 + 2 * i)) ((congrArg sf (nI_clamp (by omega))).trans (hsj _ hs9_1)) dX9_scan_35 ?_
          refine lv_astore (lv' := [(5, .ref (ad (106 + 2 * i))), (0, .ref (ad 0)), (1, .int (nI (i))), (2, .int y0), (3, .int f0), (4, .int (nI (zn)))]) hx hb dX9_scan_36 hl (by decide) rfl (fun ls hl => ?_)
          refine lv_aload hx hb dX9_scan_38 (lv_at hl 0 rfl) ?_
          refine kVi (As := []) (rest := []) S hK hP (c_X4_isNothing l D cy ad N g (106 + 2 * i) (by omega) (106 + 2 * i + 1) (by omega) ((Sh i).1) ((Sh i).2) (SK i) hfc_3 hfc_2 (by omega) (hSz i)) cv_X9_283 (by omega) hfc_3 ⟨_, _, rfl⟩ ⟨rfl, rfl⟩ rfl hl.1 rfl (Nat.le_of_ble_eq_true rfl) ⟨Nat.zero_le _, Nat.zero_le _⟩ dX9_scan_40 (fun r_40 q_40 => ?_)
          subst q_40
          refine lv_if_eq (tgt := 49) hx hb dX9_scan_43 (by decide) (fun c_43 => ?_) (fun c_43 => ?_)
          · skip
            have c_43 := bz_eq.mp c_43
            refine lv_aload hx hb dX9_scan_49 (lv_at hl 0 rfl) ?_
            refine mg S hK hP (by omega) hfc_3 fd_X9_289 rfl dX9_scan_51 ?_
            refine lv_iload_n hx hb dX9_scan_54 rfl (lv_at hl 3 rfl) ?_
            refine lv_icmp_eq (tgt := 61) hx hb dX9_scan_55 (by decide) (fun c_55 => ?_) (fun c_55 => ?_)
            · skip
              refine lv_iconst (v := nI (0)) hx hb dX9_scan_61 (by decide) ?_
              refine lv_istore (lv' := [(6, .int (nI (0))), (5, .ref (ad (106 + 2 * i))), (0, .ref (ad 0)), (1, .int (nI (i))), (2, .int y0), (3, .int f0), (4, .int (nI (zn)))]) hx hb dX9_scan_62 hl (by decide) rfl (fun ls hl => ?_)
              have L64 : ∀ (fu : Nat) (c9 : Nat) (w3 : WT) (P3 : Nat → WT) (n3 u3 : Nat), (c9 ≤ zn) → ((if (isI x0 4 ∧ isI y0 3 ∧ isI z0 31) then (if (Sh x0.toNatClampNeg).1 = -1 then (-11, (w, Pw, nx0, un)) else if (Sh x0.toNatClampNeg).1 = y0 then scA (SK x0.toNatClampNeg) (Sh x0.toNatClampNeg).2 f0 z0.toNatClampNeg z0.toNatClampNeg (w, Pw, nx0, un) 0 else (-13, (w, Pw, nx0, un))) else (-1, (w, Pw, nx0, un))) = scA (SK i) (Sh i).2 f0 zn (zn - c9) (w3, P3, n3, u3) c9) → (FOK (w3, P3, n3, u3)) → (zn - c9) < fu → ∀ (g_4 : Nat → va_E) (H : Heap) (locs : List Loc), g_4 1 = .inr (1, [.ref (ad (1 + 1)), .ref (ad (1 + 2)), .int (nI (n3)), .int (nI (u3)), .int rf]) → g_4 (1 + 1) = .inr (8, [.int (nI (wn w3)), .long (lN (sea (wd w3) (wn w3))), .int (nI (wf w3)), .int (nI (wh w3)), .long (lN (wo w3))]) → g_4 (1 + 2) = .inl (cy 6, 13, .inr (.inr (.inr (.inr fa)))) → (∀ j : Nat, j < 13 → g_4 (1 + 3 + j) = .inr (8, [.int (nI (wn (P3 j))), .long (lN (sea (wd (P3 j)) (wn (P3 j)))), .int (nI (wf (P3 j))), .int (nI (wh (P3 j))), .long (lN (wo (P3 j)))])) → (∀ j : Nat, (j < 1 ∨ 17 ≤ j) → g_4 j = g j) → MM D ad N g_4 H → va_S (AA ad N) s.heap H locs → ∀ (ls : Array Slot), lv_has ls 9 [(6, .int (nI (c9))), (5, .ref (ad (106 + 2 * i))), (0, .ref (ad 0)), (1, .int (nI (i))), (2, .int y0), (3, .int f0), (4, .int (nI (zn)))] → W p l e (rmF 5 113) s m [.ref (ad 0), .int x0, .int y0, .int f0, .int z0].toArray below meth c H locs 0 0 (MQ below (QI (fun r g1 => (r = (if (isI x0 4 ∧ isI y0 3 ∧ isI z0 31) then (if (Sh x0.toNatClampNeg).1 = -1 then (-11, (w, Pw, nx0, un)) else if (Sh x0.toNatClampNeg).1 = y0 then scA (SK x0.toNatClampNeg) (Sh x0.toNatClampNeg).2 f0 z0.toNatClampNeg z0.toNatClampNeg (w, Pw, nx0, un) 0 else (-13, (w, Pw, nx0, un))) else (-1, (w, Pw, nx0, un))).1) ∧ g1 1 = .inr (1, [.ref (ad (1 + 1)), .ref (ad (1 + 2)), .int (nI ((if (isI x0 4 ∧ isI y0 3 ∧ isI z0 31) then (if (Sh x0.toNatClampNeg).1 = -1 then (-11, (w, Pw, nx0, un)) else if (Sh x0.toNatClampNeg).1 = y0 then scA (SK x0.toNatClampNeg) (Sh x0.toNatClampNeg).2 f0 z0.toNatClampNeg z0.toNatClampNeg (w, Pw, nx0, un) 0 else (-13, (w, Pw, nx0, un))) else (-1, (w, Pw, nx0, un))).2.2.2.1)), .int (nI ((if (isI x0 4 ∧ isI y0 3 ∧ isI z0 31) then (if (Sh x0.toNatClampNeg).1 = -1 then (-11, (w, Pw, nx0, un)) else if (Sh x0.toNatClampNeg).1 = y0 then scA (SK x0.toNatClampNeg) (Sh x0.toNatClampNeg).2 f0 z0.toNatClampNeg z0.toNatClampNeg (w, Pw, nx0, un) 0 else (-13, (w, Pw, nx0, un))) else (-1, (w, Pw, nx0, un))).2.2.2.2)), .int rf]) ∧ g1 (1 + 1) = .inr (8, [.int (nI (wn ((if (isI x0 4 ∧ isI y0 3 ∧ isI z0 31) then (if (Sh x0.toNatClampNeg).1 = -1 then (-11, (w, Pw, nx0, un)) else if (Sh x0.toNatClampNeg).1 = y0 then scA (SK x0.toNatClampNeg) (Sh x0.toNatClampNeg).2 f0 z0.toNatClampNeg z0.toNatClampNeg (w, Pw, nx0, un) 0 else (-13, (w, Pw, nx0, un))) else (-1, (w, Pw, nx0, un))).2.1))), .long (lN (sea (wd ((if (isI x0 4 ∧ isI y0 3 ∧ isI z0 31) then (if (Sh x0.toNatClampNeg).1 = -1 then (-11, (w, Pw, nx0, un)) else if (Sh x0.toNatClampNeg).1 = y0 then scA (SK x0.toNatClampNeg) (Sh x0.toNatClampNeg).2 f0 z0.toNatClampNeg z0.toNatClampNeg (w, Pw, nx0, un) 0 else (-13, (w, Pw, nx0, un))) else (-1, (w, Pw, nx0, un))).2.1)) (wn ((if (isI x0 4 ∧ isI y0 3 ∧ isI z0 31) then (if (Sh x0.toNatClampNeg).1 = -1 then (-11, (w, Pw, nx0, un)) else if (Sh x0.toNatClampNeg).1 = y0 then scA (SK x0.toNatClampNeg) (Sh x0.toNatClampNeg).2 f0 z0.toNatClampNeg z0.toNatClampNeg (w, Pw, nx0, un) 0 else (-13, (w, Pw, nx0, un))) else (-1, (w, Pw, nx0, un))).2.1)))), .int (nI (wf ((if (isI x0 4 ∧ isI y0 3 ∧ isI z0 31) then (if (Sh x0.toNatClampNeg).1 = -1 then (-11, (w, Pw, nx0, un)) else if (Sh x0.toNatClampNeg).1 = y0 then scA (SK x0.toNatClampNeg) (Sh x0.toNatClampNeg).2 f0 z0.toNatClampNeg z0.toNatClampNeg (w, Pw, nx0, un) 0 else (-13, (w, Pw, nx0, un))) else (-1, (w, Pw, nx0, un))).2.1))), .int (nI (wh ((if (isI x0 4 ∧ isI y0 3 ∧ isI z0 31) then (if (Sh x0.toNatClampNeg).1 = -1 then (-11, (w, Pw, nx0, un)) else if (Sh x0.toNatClampNeg).1 = y0 then scA (SK x0.toNatClampNeg) (Sh x0.toNatClampNeg).2 f0 z0.toNatClampNeg z0.toNatClampNeg (w, Pw, nx0, un) 0 else (-13, (w, Pw, nx0, un))) else (-1, (w, Pw, nx0, un))).2.1))), .long (lN (wo ((if (isI x0 4 ∧ isI y0 3 ∧ isI z0 31) then (if (Sh x0.toNatClampNeg).1 = -1 then (-11, (w, Pw, nx0, un)) else if (Sh x0.toNatClampNeg).1 = y0 then scA (SK x0.toNatClampNeg) (Sh x0.toNatClampNeg).2 f0 z0.toNatClampNeg z0.toNatClampNeg (w, Pw, nx0, un) 0 else (-13, (w, Pw, nx0, un))) else (-1, (w, Pw, nx0, un))).2.1)))]) ∧ g1 (1 + 2) = .inl (cy 6, 13, .inr (.inr (.inr (.inr fa)))) ∧ (∀ j : Nat, j < 13 → g1 (1 + 3 + j) = .inr (8, [.int (nI (wn (((if (isI x0 4 ∧ isI y0 3 ∧ isI z0 31) then (if (Sh x0.toNatClampNeg).1 = -1 then (-11, (w, Pw, nx0, un)) else if (Sh x0.toNatClampNeg).1 = y0 then scA (SK x0.toNatClampNeg) (Sh x0.toNatClampNeg).2 f0 z0.toNatClampNeg z0.toNatClampNeg (w, Pw, nx0, un) 0 else (-13, (w, Pw, nx0, un))) else (-1, (w, Pw, nx0, un))).2.2.1) j))), .long (lN (sea (wd (((if (isI x0 4 ∧ isI y0 3 ∧ isI z0 31) then (if (Sh x0.toNatClampNeg).1 = -1 then (-11, (w, Pw, nx0, un)) else if (Sh x0.toNatClampNeg).1 = y0 then scA (SK x0.toNatClampNeg) (Sh x0.toNatClampNeg).2 f0 z0.toNatClampNeg z0.toNatClampNeg (w, Pw, nx0, un) 0 else (-13, (w, Pw, nx0, un))) else (-1, (w, Pw, nx0, un))).2.2.1) j)) (wn (((if (isI x0 4 ∧ isI y0 3 ∧ isI z0 31) then (if (Sh x0.toNatClampNeg).1 = -1 then (-11, (w, Pw, nx0, un)) else if (Sh x0.toNatClampNeg).1 = y0 then scA (SK x0.toNatClampNeg) (Sh x0.toNatClampNeg).2 f0 z0.toNatClampNeg z0.toNatClampNeg (w, Pw, nx0, un) 0 else (-13, (w, Pw, nx0, un))) else (-1, (w, Pw, nx0, un))).2.2.1) j)))), .int (nI (wf (((if (isI x0 4 ∧ isI y0 3 ∧ isI z0 31) then (if (Sh x0.toNatClampNeg).1 = -1 then (-11, (w, Pw, nx0, un)) else if (Sh x0.toNatClampNeg).1 = y0 then scA (SK x0.toNatClampNeg) (Sh x0.toNatClampNeg).2 f0 z0.toNatClampNeg z0.toNatClampNeg (w, Pw, nx0, un) 0 else (-13, (w, Pw, nx0, un))) else (-1, (w, Pw, nx0, un))).2.2.1) j))), .int (nI (wh (((if (isI x0 4 ∧ isI y0 3 ∧ isI z0 31) then (if (Sh x0.toNatClampNeg).1 = -1 then (-11, (w, Pw, nx0, un)) else if (Sh x0.toNatClampNeg).1 = y0 then scA (SK x0.toNatClampNeg) (Sh x0.toNatClampNeg).2 f0 z0.toNatClampNeg z0.toNatClampNeg (w, Pw, nx0, un) 0 else (-13, (w, Pw, nx0, un))) else (-1, (w, Pw, nx0, un))).2.2.1) j))), .long (lN (wo (((if (isI x0 4 ∧ isI y0 3 ∧ isI z0 31) then (if (Sh x0.toNatClampNeg).1 = -1 then (-11, (w, Pw, nx0, un)) else if (Sh x0.toNatClampNeg).1 = y0 then scA (SK x0.toNatClampNeg) (Sh x0.toNatClampNeg).2 f0 z0.toNatClampNeg z0.toNatClampNeg (w, Pw, nx0, un) 0 else (-13, (w, Pw, nx0, un))) else (-1, (w, Pw, nx0, un))).2.2.1) j)))])) ∧ (∀ j, (j < 1 ∨ 17 ≤ j) → g1 j = g j)) D ad N) [.ref (ad 0), .int x0, .int y0, .int f0, .int z0].toArray s 0 0 (AA ad N)) (F0 m 64 ls []) := by
                intro fu
                induction fu with
                | zero => intro c9 w3 P3 n3 u3 hc9 hor hfk hms g_4 H locs h1_4 h1___1_4 h1___2_4 hfam_P_4 hfr_4 hP hS ls hl; exact absurd hms (Nat.not_lt_zero _)
                | succ fu ih64 =>
                  intro c9 w3 P3 n3 u3 hc9 hor hfk hms g_4 H locs h1_4 h1___1_4 h1___2_4 hfam_P_4 hfr_4 hP hS ls hl
                  have h0_4 : g_4 0 = .inr (9, [.ref (ad 1), .ref (ad 17), .ref (ad 33), .ref (ad 34), .int (nI (qc)), .ref (ad 35), .ref (ad 45), .ref (ad 47), .ref (ad 52), .int (nI (fc)), .int lf, .int lt, .ref (ad 53), .int (nI (vc)), .ref (ad 54), .ref (ad 75)]) := (hfr_4 0 (by omega)).trans hX
                  have h75_4 : g_4 75 = .inl (cy 4, 4, .inr (.inr (.inr (.inr sf)))) := (hfr_4 75 (by omega)).trans hsf
                  have hfam_SO_4 : (∀ j : Nat, j < 4 → g_4 (106 + 2 * j) = .inr (4, [.ref (ad (106 + 2 * j + 1)), .int ((Sh j).1), .int (nI ((Sh j).2))])) := fun j hj => (hfr_4 _ (by omega)).trans (hSo j hj)
                  have hfam_SC_4 : (∀ j : Nat, j < 4 → g_4 (106 + 2 * j + 1) = .inl (cy 1, 60, .inl (SK j))) := fun j hj => (hfr_4 _ (by omega)).trans (hSk j hj)
                  refine lv_iload hx hb dX9_scan_64 (lv_at hl 0 rfl) ?_
                  refine lv_iload hx hb dX9_scan_66 (lv_at hl 6 rfl) ?_
                  refine lv_icmp_ge (tgt := 147) hx hb dX9_scan_68 (by decide) (fun c_68 => ?_) (fun c_68 => ?_)
                  · skip
                    have c_68 := (nI_leI (by omega) (by omega)).mp c_68
                    have hE9 := hor.trans (scA_0 (by omega))
                    refine lv_iload hx hb dX9_scan_147 (lv_at hl 6 rfl) ?_
                    exact rMi S hr hlk hP hS ⟨(by rw [hE9]), (by rw [hE9]; exact h1_4), (by rw [hE9]; exact h1___1_4), h1___2_4, (by rw [hE9]; exact hfam_P_4), hfr_4⟩ dX9_scan_149
                  · skip
                    have c_68 := (not_congr (nI_leI (by omega) (by omega))).mp c_68
                    refine lv_iload_n hx hb dX9_scan_71 rfl (lv_at hl 5 rfl) ?_
                    refine lv_iconst (v := nI (2)) hx hb dX9_scan_72 (by decide) ?_
                    refine lv_iload hx hb dX9_scan_73 (lv_at hl 0 rfl) ?_
                    refine lv_imul hx hb dX9_scan_75 ?_
                    refine tpi (pk_mul 2 c9) ?_
                    refine lv_iadd hx hb dX9_scan_76 ?_
                    refine lv_istore (lv' := [(7, .int (f0 + (nI (2 * c9)))), (6, .int (nI (c9))), (5, .ref (ad (106 + 2 * i))), (0, .ref (ad 0)), (1, .int (nI (i))), (2, .int y0), (3, .int f0), (4, .int (nI (zn)))]) hx hb dX9_scan_77 hl (by decide) rfl (fun ls hl => ?_)
                    have hi4 : i < 4 := by omega
                    have hfc_5 : g_4 (106 + 2 * i + 1) = .inl (cy 1, 60, .inl (SK i)) := hfam_SC_4 i hi4
                    have hfc_6 : g_4 (106 + 2 * i) = .inr (4, [.ref (ad (106 + 2 * i + 1)), .int ((Sh i).1), .int (nI ((Sh i).2))]) := hfam_SO_4 i hi4
                    refine lv_aload hx hb dX9_scan_79 (lv_at hl 2 rfl) ?_
                    refine lv_iload hx hb dX9_scan_81 (lv_at hl 0 rfl) ?_
                    refine kVi (As := [.int (f0 + (nI (2 * c9)))]) (rest := []) S hK hP (c_X4_has l D cy ad N g_4 (106 + 2 * i) (by omega) (106 + 2 * i + 1) (by omega) ((Sh i).1) ((Sh i).2) (SK i) hfc_6 hfc_5 (by omega) (hSz i) (f0 + (nI (2 * c9)))) cv_X9_292 (by omega) hfc_6 ⟨_, _, rfl⟩ ⟨rfl, rfl⟩ rfl hl.1 rfl (Nat.le_of_ble_eq_true rfl) ⟨Nat.zero_le _, Nat.zero_le _⟩ dX9_scan_83 (fun r_83 q_83 => ?_)
                    refine lv_if_eq (tgt := 101) hx hb dX9_scan_86 (by decide) (fun c_86 => ?_) (fun c_86 => ?_)
                    · skip
                      have hE9 := hor.trans (scA_b (by omega) (fun q => by rcases q_83 with z | z; rw [z.1] at c_86; exact absurd c_86 (by decide); exact z.2 ((inC_isI (by omega)).mpr q.1)))
                      refine lv_bipush (v := (-12)) hx hb dX9_scan_101 (by decide) ?_
                      exact rMi S hr hlk hP hS ⟨(by rw [hE9]), (by rw [hE9]; exact h1_4), (by rw [hE9]; exact h1___1_4), h1___2_4, (by rw [hE9]; exact hfam_P_4), hfr_4⟩ dX9_scan_103
                    · skip
                      have hi1 : inC (Sh i).2 (f0 + nI (2 * c9)) := by rcases q_83 with z | z; exact z.2; exact absurd z.1 c_86
                      refine lv_aload hx hb dX9_scan_89 (lv_at hl 2 rfl) ?_
                      refine lv_iload hx hb dX9_scan_91 (lv_at hl 0 rfl) ?_
                      refine lv_iconst (v := nI (1)) hx hb dX9_scan_93 (by decide) ?_
                      refine lv_iadd hx hb dX9_scan_94 ?_
                      refine kVi (As := [.int ((f0 + (nI (2 * c9))) + (nI (1)))]) (rest := []) S hK hP (c_X4_has l D cy ad N g_4 (106 + 2 * i) (by omega) (106 + 2 * i + 1) (by omega) ((Sh i).1) ((Sh i).2) (SK i) hfc_6 hfc_5 (by omega) (hSz i) ((f0 + (nI (2 * c9))) + (nI (1)))) cv_X9_292 (by omega) hfc_6 ⟨_, _, rfl⟩ ⟨rfl, rfl⟩ rfl hl.1 rfl (Nat.le_of_ble_eq_true rfl) ⟨Nat.zero_le _, Nat.zero_le _⟩ dX9_scan_95 (fun r_95 q_95 => ?_)
                      refine lv_if_ne (tgt := 104) hx hb dX9_scan_98 (by decide) (fun c_98 => ?_) (fun c_98 => ?_)
                      · skip
                        have hi2 : inC (Sh i).2 (f0 + nI (2 * c9) + nI 1) := by rcases q_95 with z | z; exact z.2; exact absurd z.1 c_98
                        have hin : isI (f0 + nI (2 * c9)) (Sh i).2 ∧ isI (f0 + nI (2 * c9) + nI 1) (Sh i).2 := ⟨(inC_isI (by omega)).mp hi1, (inC_isI (by omega)).mp hi2⟩
                        refine lv_aload_n hx hb dX9_scan_104 rfl (lv_at hl 3 rfl) ?_
                        refine mg S hK hP (by omega) h0_4 fd_X9_10 rfl dX9_scan_105 ?_
                        refine lv_aload hx hb dX9_scan_108 (lv_at hl 2 rfl) ?_
                        refine lv_iload hx hb dX9_scan_110 (lv_at hl 0 rfl) ?_
                        refine kVi (As := [.int (f0 + (nI (2 * c9)))]) (rest := [.ref (ad 1)]) S hK hP (c_X4_cellAt l D cy ad N g_4 (106 + 2 * i) (by omega) (106 + 2 * i + 1) (by omega) ((Sh i).1) ((Sh i).2) (SK i) hfc_6 hfc_5 (by omega) (hSz i) (f0 + (nI (2 * c9)))) cv_X9_295 (by omega) hfc_6 ⟨_, _, rfl⟩ ⟨rfl, rfl⟩ rfl hl.1 rfl (Nat.le_of_ble_eq_true rfl) ⟨Nat.zero_le _, Nat.zero_le _⟩ dX9_scan_112 (fun r_112 q_112 => ?_)
                        refine tpi (q_112.1 hi1) ?_
                        refine lv_aload hx hb dX9_scan_115 (lv_at hl 2 rfl) ?_
                        refine lv_iload hx hb dX9_scan_117 (lv_at hl 0 rfl) ?_
                        refine lv_iconst (v := nI (1)) hx hb dX9_scan_119 (by decide) ?_
                        refine lv_iadd hx hb dX9_scan_120 ?_
                        refine kVi (As := [.int ((f0 + (nI (2 * c9))) + (nI (1)))]) (rest := [.int (SK i (f0 + nI (2 * c9)).toNatClampNeg), .ref (ad 1)]) S hK hP (c_X4_cellAt l D cy ad N g_4 (106 + 2 * i) (by omega) (106 + 2 * i + 1) (by omega) ((Sh i).1) ((Sh i).2) (SK i) hfc_6 hfc_5 (by omega) (hSz i) ((f0 + (nI (2 * c9))) + (nI (1)))) cv_X9_295 (by omega) hfc_6 ⟨_, _, rfl⟩ ⟨rfl, rfl⟩ rfl hl.1 rfl (Nat.le_of_ble_eq_true rfl) ⟨Nat.zero_le _, Nat.zero_le _⟩ dX9_scan_121 (fun r_121 q_121 => ?_)
                        refine tpi (q_121.1 hi2) ?_
                        refine kMi (As := [.int (SK i (f0 + nI (2 * c9)).toNatClampNeg), .int (SK i (f0 + nI (2 * c9) + nI 1).toNatClampNeg)]) (rest := []) S hK hP hS (fun _ h => h) (c_X1_attempt l D cy ad N g_4 hinj 1 (by omega) n3 u3 rf h1_4 w3 h1___1_4 fa h1___2_4 hfa P3 hfam_P_4 hfk.2.2.1 hfk.2.2.2 hfk.1 hfk.2.1 (SK i (f0 + nI (2 * c9)).toNatClampNeg) (SK i (f0 + nI (2 * c9) + nI 1).toNatClampNeg)) cv_X9_93 (by omega) h1_4 ⟨_, _, rfl⟩ ⟨rfl, rfl⟩ rfl hl.1 rfl (Nat.le_of_ble_eq_true rfl) ⟨Nat.zero_le _, Nat.zero_le _⟩ dX9_scan_124 (fun r_124 g_7 H locs q_7 hP hS => ?_)
                        obtain ⟨q_124, h1_7, h1___1_7, h1___2_7, hfam_P_7, f_7⟩ := q_7
                        subst q_124
                        have h0_7 : g_7 0 = .inr (9, [.ref (ad 1), .ref (ad 17), .ref (ad 33), .ref (ad 34), .int (nI (qc)), .ref (ad 35), .ref (ad 45), .ref (ad 47), .ref (ad 52), .int (nI (fc)), .int lf, .int lt, .ref (ad 53), .int (nI (vc)), .ref (ad 54), .ref (ad 75)]) := (f_7 0 (by omega)).trans h0_4
                        have h75_7 : g_7 75 = .inl (cy 4, 4, .inr (.inr (.inr (.inr sf)))) := (f_7 75 (by omega)).trans h75_4
                        have h106___2___i___1_7 : g_7 (106 + 2 * i + 1) = .inl (cy 1, 60, .inl (SK i)) := (f_7 (106 + 2 * i + 1) (by omega)).trans hfc_5
                        have h106___2___i_7 : g_7 (106 + 2 * i) = .inr (4, [.ref (ad (106 + 2 * i + 1)), .int ((Sh i).1), .int (nI ((Sh i).2))]) := (f_7 (106 + 2 * i) (by omega)).trans hfc_6
                        have hfam_SO_7 : (∀ j : Nat, j < 4 → g_7 (106 + 2 * j) = .inr (4, [.ref (ad (106 + 2 * j + 1)), .int ((Sh j).1), .int (nI ((Sh j).2))])) := fun j hj => (f_7 (106 + 2 * j) (by omega)).trans (hfam_SO_4 j hj)
                        have hfam_SC_7 : (∀ j : Nat, j < 4 → g_7 (106 + 2 * j + 1) = .inl (cy 1, 60, .inl (SK j))) := fun j hj => (f_7 (106 + 2 * j + 1) (by omega)).trans (hfam_SC_4 j hj)
                        have hfr_7 : ∀ j : Nat, (j < 1 ∨ 17 ≤ j) → (j < 1 ∨ 1 + 16 ≤ j) → g_7 j = g j := fun j n0 n1 => (f_7 j n1).trans (hfr_4 j n0)
                        refine lv_istore (lv' := [(8, .int ((chg w3 (SK i (f0 + nI (2 * c9)).toNatClampNeg) (SK i (f0 + nI (2 * c9) + nI 1).toNatClampNeg)).1)), (7, .int (f0 + (nI (2 * c9)))), (6, .int (nI (c9))), (5, .ref (ad (106 + 2 * i))), (0, .ref (ad 0)), (1, .int (nI (i))), (2, .int y0), (3, .int f0), (4, .int (nI (zn)))]) hx hb dX9_scan_127 hl (by decide) rfl (fun ls hl => ?_)
                        refine lv_iload hx hb dX9_scan_129 (lv_at hl 0 rfl) ?_
                        refine lv_iconst (v := nI (1)) hx hb dX9_scan_131 (by decide) ?_
                        refine lv_icmp_eq (tgt := 141) hx hb dX9_scan_132 (by decide) (fun c_132 => ?_) (fun c_132 => ?_)
                        · skip
                          refine lv_iinc (v := nI (c9 + 1)) (lv' := [(6, .int (nI (c9 + 1))), (8, .int ((chg w3 (SK i (f0 + nI (2 * c9)).toNatClampNeg) (SK i (f0 + nI (2 * c9) + nI 1).toNatClampNeg)).1)), (7, .int (f0 + (nI (2 * c9)))), (5, .ref (ad (106 + 2 * i))), (0, .ref (ad 0)), (1, .int (nI (i))), (2, .int y0), (3, .int f0), (4, .int (nI (zn)))]) hx hb dX9_scan_141 hl (k := 2) rfl (by exact nI_add c9 1) (by decide) rfl (fun ls hl => ?_)
                          refine lv_goto (tgt := 64) hx hb dX9_scan_144 (by decide) ?_
                          exact ih64 (c9 + 1) ((chg w3 (SK i (f0 + nI (2 * c9)).toNatClampNeg) (SK i (f0 + nI (2 * c9) + nI 1).toNatClampNeg)).2) (va_up P3 n3 w3) ((if (chg w3 (SK i (f0 + nI (2 * c9)).toNatClampNeg) (SK i (f0 + nI (2 * c9) + nI 1).toNatClampNeg)).1 = 1 then (if n3 + 1 < 13 then n3 + 1 else 0) else n3)) ((if (chg w3 (SK i (f0 + nI (2 * c9)).toNatClampNeg) (SK i (f0 + nI (2 * c9) + nI 1).toNatClampNeg)).1 = 1 then (if u3 + 1 < 12 then u3 + 1 else 12) else u3)) (by omega) (hor.trans (scA_g (by omega) hin c_132)) (attF_ok hfk).1 (by omega) g_7 _ _ h1_7 h1___1_7 h1___2_7 hfam_P_7 (fun j n0 => hfr_7 j (by omega) (by omega)) hP hS _ (lv_sub hl [0, 3, 4, 5, 6, 7, 8] rfl)
                        · skip
                          have hE9 := hor.trans (scA_s (by omega) hin c_132)
                          refine lv_bipush (v := (-20)) hx hb dX9_scan_135 (by decide) ?_
                          refine lv_iload hx hb dX9_scan_137 (lv_at hl 0 rfl) ?_
                          refine lv_iadd hx hb dX9_scan_139 ?_
                          exact rMi S hr hlk hP hS ⟨(by rw [hE9]; rfl), (by rw [hE9]; exact h1_7), (by rw [hE9]; exact h1___1_7), h1___2_7, (by rw [hE9]; exact hfam_P_7), (fun j n0 => hfr_7 j (by omega) (by omega))⟩ dX9_scan_140
                      · skip
                        have hE9 := hor.trans (scA_b (by omega) (fun q => by rcases q_95 with z | z; rw [z.1] at c_98; exact absurd c_98 (by decide); exact z.2 ((inC_isI (by omega)).mpr q.2)))
                        refine lv_bipush (v := (-12)) hx hb dX9_scan_101 (by decide) ?_
                        exact rMi S hr hlk hP hS ⟨(by rw [hE9]), (by rw [hE9]; exact h1_4), (by rw [hE9]; exact h1___1_4), h1___2_4, (by rw [hE9]; exact hfam_P_4), hfr_4⟩ dX9_scan_103
              exact L64 ((zn - 0) + 1) 0 w Pw nx0 un (by omega) (by rw [if_pos hJ, eix, if_neg c_43, if_pos c_55, eznx]; rfl) ⟨hw, hPw, hnx, hun⟩ (Nat.lt_succ_self _) g _ _ hg hgn hga hfam (fun j n0 => hfr j ) hP hS _ (lv_sub hl [0, 1, 2, 3, 4, 5, 6] rfl)
            · skip
              have hE9 : (if (isI x0 4 ∧ isI y0 3 ∧ isI z0 31) then (if (Sh x0.toNatClampNeg).1 = -1 then (-11, (w, Pw, nx0, un)) else if (Sh x0.toNatClampNeg).1 = y0 then scA (SK x0.toNatClampNeg) (Sh x0.toNatClampNeg).2 f0 z0.toNatClampNeg z0.toNatClampNeg (w, Pw, nx0, un) 0 else (-13, (w, Pw, nx0, un))) else (-1, (w, Pw, nx0, un))) = (-13, (w, Pw, nx0, un)) := by rw [if_pos hJ, eix, if_neg c_43, if_neg c_55]
              refine lv_bipush (v := (-13)) hx hb dX9_scan_58 (by decide) ?_
              exact rMi S hr hlk hP hS ⟨(by rw [hE9]), (by rw [hE9]; exact hg), (by rw [hE9]; exact hgn), hga, (by rw [hE9]; exact hfam), (fun j n0 => hfr j )⟩ dX9_scan_60
          · skip
            have c_43 := bz_ne.mp c_43
            have hE9 : (if (isI x0 4 ∧ isI y0 3 ∧ isI z0 31) then (if (Sh x0.toNatClampNeg).1 = -1 then (-11, (w, Pw, nx0, un)) else if (Sh x0.toNatClampNeg).1 = y0 then scA (SK x0.toNatClampNeg) (Sh x0.toNatClampNeg).2 f0 z0.toNatClampNeg z0.toNatClampNeg (w, Pw, nx0, un) 0 else (-13, (w, Pw, nx0, un))) else (-1, (w, Pw, nx0, un))) = (-11, (w, Pw, nx0, un)) := by rw [if_pos hJ, eix, if_pos c_43]
            refine lv_bipush (v := (-11)) hx hb dX9_scan_46 (by decide) ?_
            exact rMi S hr hlk hP hS ⟨(by rw [hE9]), (by rw [hE9]; exact hg), (by rw [hE9]; exact hgn), hga, (by rw [hE9]; exact hfam), (fun j n0 => hfr j )⟩ dX9_scan_48
        · skip
          have c_25 := (not_congr (nI_leI (by omega) (by omega))).mp c_25
          have hE9 : (if (isI x0 4 ∧ isI y0 3 ∧ isI z0 31) then (if (Sh x0.toNatClampNeg).1 = -1 then (-11, (w, Pw, nx0, un)) else if (Sh x0.toNatClampNeg).1 = y0 then scA (SK x0.toNatClampNeg) (Sh x0.toNatClampNeg).2 f0 z0.toNatClampNeg z0.toNatClampNeg (w, Pw, nx0, un) 0 else (-13, (w, Pw, nx0, un))) else (-1, (w, Pw, nx0, un))) = (-1, (w, Pw, nx0, un)) := if_neg (fun q => by have q9 := q.2.2; rw [ezn] at q9; have := (isI_nI (by omega) (by omega)).mp q9; omega)
          refine lv_iconst (v := (-1)) hx hb dX9_scan_28 (by decide) ?_
          exact rMi S hr hlk hP hS ⟨(by rw [hE9]), (by rw [hE9]; exact hg), (by rw [hE9]; exact hgn), hga, (by rw [hE9]; exact hfam), (fun j n0 => hfr j )⟩ dX9_scan_29

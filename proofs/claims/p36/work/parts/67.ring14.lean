set_option maxHeartbeats 4000000 in
set_option maxRecDepth 100000 in
theorem c_X9_perform (l : Launch) (D : va_G) (cy : Nat → ClassId) (ad : Nat → Nat) (N : Nat) (g : Nat → va_E) (hinj : ∀ i j : Nat, i < N → j < N → ad i = ad j → i = j) (hN : 114 ≤ N) (qc : Nat) (fc : Nat) (lf : Int32) (lt : Int32) (vc : Nat) (hX : g 0 = .inr (9, [.ref (ad 1), .ref (ad 17), .ref (ad 33), .ref (ad 34), .int (nI (qc)), .ref (ad 35), .ref (ad 45), .ref (ad 47), .ref (ad 52), .int (nI (fc)), .int lf, .int lt, .ref (ad 53), .int (nI (vc)), .ref (ad 54), .ref (ad 75)])) (nx0 : Nat) (un : Nat) (rf : Int32) (hg : g 1 = .inr (1, [.ref (ad (1 + 1)), .ref (ad (1 + 2)), .int (nI (nx0)), .int (nI (un)), .int rf])) (w : WT) (hgn : g (1 + 1) = .inr (8, [.int (nI (wn w)), .long (lN (sea (wd w) (wn w))), .int (nI (wf w)), .int (nI (wh w)), .long (lN (wo w))])) (fa : Nat → Option Nat) (hga : g (1 + 2) = .inl (cy 6, 13, .inr (.inr (.inr (.inr fa))))) (hfa : ∀ j, j < 13 → fa j = some (ad (1 + 3 + j))) (Pw : Nat → WT) (hfam : (∀ j : Nat, j < 13 → g (1 + 3 + j) = .inr (8, [.int (nI (wn (Pw j))), .long (lN (sea (wd (Pw j)) (wn (Pw j)))), .int (nI (wf (Pw j))), .int (nI (wh (Pw j))), .long (lN (wo (Pw j)))]))) (hnx : nx0 < 13) (hun : un ≤ 12) (hw : WOK w) (hPw : ∀ j, j < 13 → WOK (Pw j)) (vf : Nat → Option Nat) (hvf : g 53 = .inl (cy 5, 4, .inr (.inr (.inr (.inr vf))))) (hvc : vc ≤ 4) (hvj : ∀ j, j < 4 → vf j = some (ad (98 + 2 * j))) (Vl : Nat → Nat) (VV : Nat → Nat → Nat) (hVo : (∀ j : Nat, j < 4 → g (98 + 2 * j) = .inr (7, [.ref (ad (98 + 2 * j + 1)), .int (nI (Vl j))]))) (hVb : (∀ j : Nat, j < 4 → g (98 + 2 * j + 1) = .inl (cy 1, 16, .inl (fun x9 => nI ((VV j) x9))))) (hVl : ∀ j, Vl j ≤ 16) (hVV : ∀ j i, VV j i < 8) (ff : Nat → Option Nat) (hff : g 52 = .inl (cy 3, 8, .inr (.inr (.inr (.inr ff))))) (hfc : fc ≤ 8) (hfj : ∀ j, j < 8 → ff j = some (ad (82 + 2 * j))) (Fl : Nat → Nat) (hFo : (∀ j : Nat, j < 8 → g (82 + 2 * j) = .inr (0, [.ref (ad (82 + 2 * j + 1)), .int (nI (Fl j))]))) (hFl : ∀ j, Fl j ≤ 200) (FB : Nat → Nat → Nat) (hFb : (∀ j : Nat, j < 8 → g (82 + 2 * j + 1) = .inl (cy 0, 200, .inl (fun x9 => nI ((FB j) x9))))) (hFB : ∀ j i, FB j i < 64) (x0 : Int32) : Met l yX9_perform (WS yX9_perform cX9_perform 5 (some .int)) (rmF 7 163) (PP [.ref (ad 0), .int x0] D cy ad N g) (QI (fun r g1 => (r = (if isI x0 vc then pfA FB Fl fc (VV x0.toNatClampNeg) (Vl x0.toNatClampNeg) (Vl x0.toNatClampNeg) ((w, Pw, nx0, un), rf, lt) 0 else (-1, (w, Pw, nx0, un), rf, lt)).1) ∧ g1 0 = .inr (9, [.ref (ad 1), .ref (ad 17), .ref (ad 33), .ref (ad 34), .int (nI (qc)), .ref (ad 35), .ref (ad 45), .ref (ad 47), .ref (ad 52), .int (nI (fc)), .int lf, .int ((if isI x0 vc then pfA FB Fl fc (VV x0.toNatClampNeg) (Vl x0.toNatClampNeg) (Vl x0.toNatClampNeg) ((w, Pw, nx0, un), rf, lt) 0 else (-1, (w, Pw, nx0, un), rf, lt)).2.2.2), .ref (ad 53), .int (nI (vc)), .ref (ad 54), .ref (ad 75)]) ∧ g1 1 = .inr (1, [.ref (ad (1 + 1)), .ref (ad (1 + 2)), .int (nI ((if isI x0 vc then pfA FB Fl fc (VV x0.toNatClampNeg) (Vl x0.toNatClampNeg) (Vl x0.toNatClampNeg) ((w, Pw, nx0, un), rf, lt) 0 else (-1, (w, Pw, nx0, un), rf, lt)).2.1.2.2.1)), .int (nI ((if isI x0 vc then pfA FB Fl fc (VV x0.toNatClampNeg) (Vl x0.toNatClampNeg) (Vl x0.toNatClampNeg) ((w, Pw, nx0, un), rf, lt) 0 else (-1, (w, Pw, nx0, un), rf, lt)).2.1.2.2.2)), .int ((if isI x0 vc then pfA FB Fl fc (VV x0.toNatClampNeg) (Vl x0.toNatClampNeg) (Vl x0.toNatClampNeg) ((w, Pw, nx0, un), rf, lt) 0 else (-1, (w, Pw, nx0, un), rf, lt)).2.2.1)]) ∧ g1 (1 + 1) = .inr (8, [.int (nI (wn ((if isI x0 vc then pfA FB Fl fc (VV x0.toNatClampNeg) (Vl x0.toNatClampNeg) (Vl x0.toNatClampNeg) ((w, Pw, nx0, un), rf, lt) 0 else (-1, (w, Pw, nx0, un), rf, lt)).2.1.1))), .long (lN (sea (wd ((if isI x0 vc then pfA FB Fl fc (VV x0.toNatClampNeg) (Vl x0.toNatClampNeg) (Vl x0.toNatClampNeg) ((w, Pw, nx0, un), rf, lt) 0 else (-1, (w, Pw, nx0, un), rf, lt)).2.1.1)) (wn ((if isI x0 vc then pfA FB Fl fc (VV x0.toNatClampNeg) (Vl x0.toNatClampNeg) (Vl x0.toNatClampNeg) ((w, Pw, nx0, un), rf, lt) 0 else (-1, (w, Pw, nx0, un), rf, lt)).2.1.1)))), .int (nI (wf ((if isI x0 vc then pfA FB Fl fc (VV x0.toNatClampNeg) (Vl x0.toNatClampNeg) (Vl x0.toNatClampNeg) ((w, Pw, nx0, un), rf, lt) 0 else (-1, (w, Pw, nx0, un), rf, lt)).2.1.1))), .int (nI (wh ((if isI x0 vc then pfA FB Fl fc (VV x0.toNatClampNeg) (Vl x0.toNatClampNeg) (Vl x0.toNatClampNeg) ((w, Pw, nx0, un), rf, lt) 0 else (-1, (w, Pw, nx0, un), rf, lt)).2.1.1))), .long (lN (wo ((if isI x0 vc then pfA FB Fl fc (VV x0.toNatClampNeg) (Vl x0.toNatClampNeg) (Vl x0.toNatClampNeg) ((w, Pw, nx0, un), rf, lt) 0 else (-1, (w, Pw, nx0, un), rf, lt)).2.1.1)))]) ∧ g1 (1 + 2) = .inl (cy 6, 13, .inr (.inr (.inr (.inr fa)))) ∧ (∀ j : Nat, j < 13 → g1 (1 + 3 + j) = .inr (8, [.int (nI (wn (((if isI x0 vc then pfA FB Fl fc (VV x0.toNatClampNeg) (Vl x0.toNatClampNeg) (Vl x0.toNatClampNeg) ((w, Pw, nx0, un), rf, lt) 0 else (-1, (w, Pw, nx0, un), rf, lt)).2.1.2.1) j))), .long (lN (sea (wd (((if isI x0 vc then pfA FB Fl fc (VV x0.toNatClampNeg) (Vl x0.toNatClampNeg) (Vl x0.toNatClampNeg) ((w, Pw, nx0, un), rf, lt) 0 else (-1, (w, Pw, nx0, un), rf, lt)).2.1.2.1) j)) (wn (((if isI x0 vc then pfA FB Fl fc (VV x0.toNatClampNeg) (Vl x0.toNatClampNeg) (Vl x0.toNatClampNeg) ((w, Pw, nx0, un), rf, lt) 0 else (-1, (w, Pw, nx0, un), rf, lt)).2.1.2.1) j)))), .int (nI (wf (((if isI x0 vc then pfA FB Fl fc (VV x0.toNatClampNeg) (Vl x0.toNatClampNeg) (Vl x0.toNatClampNeg) ((w, Pw, nx0, un), rf, lt) 0 else (-1, (w, Pw, nx0, un), rf, lt)).2.1.2.1) j))), .int (nI (wh (((if isI x0 vc then pfA FB Fl fc (VV x0.toNatClampNeg) (Vl x0.toNatClampNeg) (Vl x0.toNatClampNeg) ((w, Pw, nx0, un), rf, lt) 0 else (-1, (w, Pw, nx0, un), rf, lt)).2.1.2.1) j))), .long (lN (wo (((if isI x0 vc then pfA FB Fl fc (VV x0.toNatClampNeg) (Vl x0.toNatClampNeg) (Vl x0.toNatClampNeg) ((w, Pw, nx0, un), rf, lt) 0 else (-1, (w, Pw, nx0, un), rf, lt)).2.1.2.1) j)))])) ∧ (∀ j, (j < 0 ∨ 17 ≤ j) → g1 j = g j)) D ad N) 0 0 (AA ad N) := by
  refine mentry (by decide) (Nat.le_of_ble_eq_true rfl) (fun p e s m below meth c ls S hr hlk hnm hP hK hl => ?_)
  have S : CallFix p m c cX9_perform 5 s _ wsL_law RX9 := S
  have hx := S.1
  have hb := S.2.1
  have hl : lv_has ls 5 [(0, .ref (ad 0)), (1, .int x0)] := hl
  have hI : MD (AA ad N) ad N := MD.in hinj
  have hS : va_S (AA ad N) s.heap s.heap [] := va_S.rf
  have hfr : ∀ j : Nat, g j = g j := fun _ => rfl
  refine lv_aload_n hx hb dX9_perform_0 rfl (lv_at hl 0 rfl) ?_
  refine lv_iload_n hx hb dX9_perform_1 rfl (lv_at hl 1 rfl) ?_
  refine kVi (As := [.int x0]) (rest := []) S hK hP (c_X9_isVillage l D cy ad N g (by omega) qc fc lf lt vc hX vf hvf hvc x0) cv_X9_253 (by omega) hX ⟨_, _, rfl⟩ ⟨rfl, rfl⟩ rfl hl.1 rfl (Nat.le_of_ble_eq_true rfl) ⟨Nat.zero_le _, Nat.zero_le _⟩ dX9_perform_2 (fun r_2 q_2 => ?_)
  subst q_2
  refine lv_if_ne (tgt := 10) hx hb dX9_perform_5 (by decide) (fun c_5 => ?_) (fun c_5 => ?_)
  · skip
    have c_5 := bz_ne.mp c_5
    have hJ := c_5
    obtain ⟨i, hib, ei⟩ := isI_nat (by omega) c_5
    have hl : lv_has ls 5 [(0, .ref (ad 0)), (1, .int (nI (i)))] := by rw [ei] at hl; exact hl
    have hib9 : i < 2 ^ 31 := by omega
    have eix : x0.toNatClampNeg = i := by rw [ei, nI_clamp hib9]
    have hVli := hVl i
    refine lv_aload_n hx hb dX9_perform_10 rfl (lv_at hl 0 rfl) ?_
    refine mg S hK hP (by omega) hX fd_X9_59 rfl dX9_perform_11 ?_
    refine lv_iload_n hx hb dX9_perform_14 rfl (lv_at hl 1 rfl) ?_
    have hv9_1 : i < 4 := by omega
    have hfc_2 : g (98 + 2 * i + 1) = .inl (cy 1, 16, .inl (fun x9 => nI ((VV i) x9))) := hVb i hv9_1
    have hfc_3 : g (98 + 2 * i) = .inr (7, [.ref (ad (98 + 2 * i + 1)), .int (nI (Vl i))]) := hVo i hv9_1
    refine mial7 S hK hP (by omega) hvf rfl (vp_in_nI (by omega) (by omega)) (a := ad (98 + 2 * i)) ((congrArg vf (nI_clamp (by omega))).trans (hvj _ hv9_1)) dX9_perform_15 ?_
    refine lv_astore_n (lv' := [(2, .ref (ad (98 + 2 * i))), (0, .ref (ad 0)), (1, .int (nI (i)))]) hx hb dX9_perform_16 rfl hl (by decide) rfl (fun ls hl => ?_)
    refine lv_iconst (v := nI (0)) hx hb dX9_perform_17 (by decide) ?_
    refine lv_istore_n (lv' := [(3, .int (nI (0))), (2, .ref (ad (98 + 2 * i))), (0, .ref (ad 0)), (1, .int (nI (i)))]) hx hb dX9_perform_18 rfl hl (by decide) rfl (fun ls hl => ?_)
    have L19 : ∀ (fu : Nat) (c9 : Nat) (w3 : WT) (P3 : Nat → WT) (n3 u3 : Nat) (r3 l3 : Int32), (c9 ≤ Vl i) → ((if isI x0 vc then pfA FB Fl fc (VV x0.toNatClampNeg) (Vl x0.toNatClampNeg) (Vl x0.toNatClampNeg) ((w, Pw, nx0, un), rf, lt) 0 else (-1, (w, Pw, nx0, un), rf, lt)) = pfA FB Fl fc (VV i) (Vl i) (Vl i - c9) ((w3, P3, n3, u3), r3, l3) c9) → (FOK (w3, P3, n3, u3)) → (Vl i - c9) < fu → ∀ (g_4 : Nat → va_E) (H : Heap) (locs : List Loc), g_4 0 = .inr (9, [.ref (ad 1), .ref (ad 17), .ref (ad 33), .ref (ad 34), .int (nI (qc)), .ref (ad 35), .ref (ad 45), .ref (ad 47), .ref (ad 52), .int (nI (fc)), .int lf, .int l3, .ref (ad 53), .int (nI (vc)), .ref (ad 54), .ref (ad 75)]) → g_4 1 = .inr (1, [.ref (ad (1 + 1)), .ref (ad (1 + 2)), .int (nI (n3)), .int (nI (u3)), .int r3]) → g_4 (1 + 1) = .inr (8, [.int (nI (wn w3)), .long (lN (sea (wd w3) (wn w3))), .int (nI (wf w3)), .int (nI (wh w3)), .long (lN (wo w3))]) → g_4 (1 + 2) = .inl (cy 6, 13, .inr (.inr (.inr (.inr fa)))) → (∀ j : Nat, j < 13 → g_4 (1 + 3 + j) = .inr (8, [.int (nI (wn (P3 j))), .long (lN (sea (wd (P3 j)) (wn (P3 j)))), .int (nI (wf (P3 j))), .int (nI (wh (P3 j))), .long (lN (wo (P3 j)))])) → (∀ j : Nat, (j < 0 ∨ 17 ≤ j) → g_4 j = g j) → MM D ad N g_4 H → va_S (AA ad N) s.heap H locs → ∀ (ls : Array Slot), lv_has ls 5 [(3, .int (nI (c9))), (2, .ref (ad (98 + 2 * i))), (0, .ref (ad 0)), (1, .int (nI (i)))] → W p l e (rmF 7 163) s m [.ref (ad 0), .int x0].toArray below meth c H locs 0 0 (MQ below (QI (fun r g1 => (r = (if isI x0 vc then pfA FB Fl fc (VV x0.toNatClampNeg) (Vl x0.toNatClampNeg) (Vl x0.toNatClampNeg) ((w, Pw, nx0, un), rf, lt) 0 else (-1, (w, Pw, nx0, un), rf, lt)).1) ∧ g1 0 = .inr (9, [.ref (ad 1), .ref (ad 17), .ref (ad 33), .ref (ad 34), .int (nI (qc)), .ref (ad 35), .ref (ad 45), .ref (ad 47), .ref (ad 52), .int (nI (fc)), .int lf, .int ((if isI x0 vc then pfA FB Fl fc (VV x0.toNatClampNeg) (Vl x0.toNatClampNeg) (Vl x0.toNatClampNeg) ((w, Pw, nx0, un), rf, lt) 0 else (-1, (w, Pw, nx0, un), rf, lt)).2.2.2), .ref (ad 53), .int (nI (vc)), .ref (ad 54), .ref (ad 75)]) ∧ g1 1 = .inr (1, [.ref (ad (1 + 1)), .ref (ad (1 + 2)), .int (nI ((if isI x0 vc then pfA FB Fl fc (VV x0.toNatClampNeg) (Vl x0.toNatClampNeg) (Vl x0.toNatClampNeg) ((w, Pw, nx0, un), rf, lt) 0 else (-1, (w, Pw, nx0, un), rf, lt)).2.1.2.2.1)), .int (nI ((if isI x0 vc then pfA FB Fl fc (VV x0.toNatClampNeg) (Vl x0.toNatClampNeg) (Vl x0.toNatClampNeg) ((w, Pw, nx0, un), rf, lt) 0 else (-1, (w, Pw, nx0, un), rf, lt)).2.1.2.2.2)), .int ((if isI x0 vc then pfA FB Fl fc (VV x0.toNatClampNeg) (Vl x0.toNatClampNeg) (Vl x0.toNatClampNeg) ((w, Pw, nx0, un), rf, lt) 0 else (-1, (w, Pw, nx0, un), rf, lt)).2.2.1)]) ∧ g1 (1 + 1) = .inr (8, [.int (nI (wn ((if isI x0 vc then pfA FB Fl fc (VV x0.toNatClampNeg) (Vl x0.toNatClampNeg) (Vl x0.toNatClampNeg) ((w, Pw, nx0, un), rf, lt) 0 else (-1, (w, Pw, nx0, un), rf, lt)).2.1.1))), .long (lN (sea (wd ((if isI x0 vc then pfA FB Fl fc (VV x0.toNatClampNeg) (Vl x0.toNatClampNeg) (Vl x0.toNatClampNeg) ((w, Pw, nx0, un), rf, lt) 0 else (-1, (w, Pw, nx0, un), rf, lt)).2.1.1)) (wn ((if isI x0 vc then pfA FB Fl fc (VV x0.toNatClampNeg) (Vl x0.toNatClampNeg) (Vl x0.toNatClampNeg) ((w, Pw, nx0, un), rf, lt) 0 else (-1, (w, Pw, nx0, un), rf, lt)).2.1.1)))), .int (nI (wf ((if isI x0 vc then pfA FB Fl fc (VV x0.toNatClampNeg) (Vl x0.toNatClampNeg) (Vl x0.toNatClampNeg) ((w, Pw, nx0, un), rf, lt) 0 else (-1, (w, Pw, nx0, un), rf, lt)).2.1.1))), .int (nI (wh ((if isI x0 vc then pfA FB Fl fc (VV x0.toNatClampNeg) (Vl x0.toNatClampNeg) (Vl x0.toNatClampNeg) ((w, Pw, nx0, un), rf, lt) 0 else (-1, (w, Pw, nx0, un), rf, lt)).2.1.1))), .long (lN (wo ((if isI x0 vc then pfA FB Fl fc (VV x0.toNatClampNeg) (Vl x0.toNatClampNeg) (Vl x0.toNatClampNeg) ((w, Pw, nx0, un), rf, lt) 0 else (-1, (w, Pw, nx0, un), rf, lt)).2.1.1)))]) ∧ g1 (1 + 2) = .inl (cy 6, 13, .inr (.inr (.inr (.inr fa)))) ∧ (∀ j : Nat, j < 13 → g1 (1 + 3 + j) = .inr (8, [.int (nI (wn (((if isI x0 vc then pfA FB Fl fc (VV x0.toNatClampNeg) (Vl x0.toNatClampNeg) (Vl x0.toNatClampNeg) ((w, Pw, nx0, un), rf, lt) 0 else (-1, (w, Pw, nx0, un), rf, lt)).2.1.2.1) j))), .long (lN (sea (wd (((if isI x0 vc then pfA FB Fl fc (VV x0.toNatClampNeg) (Vl x0.toNatClampNeg) (Vl x0.toNatClampNeg) ((w, Pw, nx0, un), rf, lt) 0 else (-1, (w, Pw, nx0, un), rf, lt)).2.1.2.1) j)) (wn (((if isI x0 vc then pfA FB Fl fc (VV x0.toNatClampNeg) (Vl x0.toNatClampNeg) (Vl x0.toNatClampNeg) ((w, Pw, nx0, un), rf, lt) 0 else (-1, (w, Pw, nx0, un), rf, lt)).2.1.2.1) j)))), .int (nI (wf (((if isI x0 vc then pfA FB Fl fc (VV x0.toNatClampNeg) (Vl x0.toNatClampNeg) (Vl x0.toNatClampNeg) ((w, Pw, nx0, un), rf, lt) 0 else (-1, (w, Pw, nx0, un), rf, lt)).2.1.2.1) j))), .int (nI (wh (((if isI x0 vc then pfA FB Fl fc (VV x0.toNatClampNeg) (Vl x0.toNatClampNeg) (Vl x0.toNatClampNeg) ((w, Pw, nx0, un), rf, lt) 0 else (-1, (w, Pw, nx0, un), rf, lt)).2.1.2.1) j))), .long (lN (wo (((if isI x0 vc then pfA FB Fl fc (VV x0.toNatClampNeg) (Vl x0.toNatClampNeg) (Vl x0.toNatClampNeg) ((w, Pw, nx0, un), rf, lt) 0 else (-1, (w, Pw, nx0, un), rf, lt)).2.1.2.1) j)))])) ∧ (∀ j, (j < 0 ∨ 17 ≤ j) → g1 j = g j)) D ad N) [.ref (ad 0), .int x0].toArray s 0 0 (AA ad N)) (F0 m 19 ls []) := by
      intro fu
      induction fu with
      | zero => intro c9 w3 P3 n3 u3 r3 l3 hc9 hor hfk hms g_4 H locs h0_4 h1_4 h1___1_4 h1___2_4 hfam_P_4 hfr_4 hP hS ls hl; exact absurd hms (Nat.not_lt_zero _)
      | succ fu ih19 =>
        intro c9 w3 P3 n3 u3 r3 l3 hc9 hor hfk hms g_4 H locs h0_4 h1_4 h1___1_4 h1___2_4 hfam_P_4 hfr_4 hP hS ls hl
        have h52_4 : g_4 52 = .inl (cy 3, 8, .inr (.inr (.inr (.inr ff)))) := (hfr_4 52 (by omega)).trans hff
        have h53_4 : g_4 53 = .inl (cy 5, 4, .inr (.inr (.inr (.inr vf)))) := (hfr_4 53 (by omega)).trans hvf
        have hfam_VO_4 : (∀ j : Nat, j < 4 → g_4 (98 + 2 * j) = .inr (7, [.ref (ad (98 + 2 * j + 1)), .int (nI (Vl j))])) := fun j hj => (hfr_4 _ (by omega)).trans (hVo j hj)
        have hfam_VB_4 : (∀ j : Nat, j < 4 → g_4 (98 + 2 * j + 1) = .inl (cy 1, 16, .inl (fun x9 => nI ((VV j) x9)))) := fun j hj => (hfr_4 _ (by omega)).trans (hVb j hj)
        have hfam_FO_4 : (∀ j : Nat, j < 8 → g_4 (82 + 2 * j) = .inr (0, [.ref (ad (82 + 2 * j + 1)), .int (nI (Fl j))])) := fun j hj => (hfr_4 _ (by omega)).trans (hFo j hj)
        have hfam_FB_4 : (∀ j : Nat, j < 8 → g_4 (82 + 2 * j + 1) = .inl (cy 0, 200, .inl (fun x9 => nI ((FB j) x9)))) := fun j hj => (hfr_4 _ (by omega)).trans (hFb j hj)
        have hVc := hVV i c9
        refine lv_iload_n hx hb dX9_perform_19 rfl (lv_at hl 0 rfl) ?_
        refine lv_aload_n hx hb dX9_perform_20 rfl (lv_at hl 1 rfl) ?_
        have hi4 : i < 4 := by omega
        have hfc_5 : g_4 (98 + 2 * i + 1) = .inl (cy 1, 16, .inl (fun x9 => nI ((VV i) x9))) := hfam_VB_4 i hi4
        have hfc_6 : g_4 (98 + 2 * i) = .inr (7, [.ref (ad (98 + 2 * i + 1)), .int (nI (Vl i))]) := hfam_VO_4 i hi4
        refine mg S hK hP (by omega) hfc_6 fd_X9_258 rfl dX9_perform_21 ?_
        refine lv_icmp_ge (tgt := 69) hx hb dX9_perform_24 (by decide) (fun c_24 => ?_) (fun c_24 => ?_)
        · skip
          have c_24 := (nI_leI (by omega) (by omega)).mp c_24
          have hE9 := hor.trans (pfA_0 (by omega))
          refine lv_aload_n hx hb dX9_perform_69 rfl (lv_at hl 1 rfl) ?_
          refine mg S hK hP (by omega) hfc_6 fd_X9_258 rfl dX9_perform_70 ?_
          exact rMi S hr hlk hP hS ⟨(by rw [hE9]), (by rw [hE9]; exact h0_4), (by rw [hE9]; exact h1_4), (by rw [hE9]; exact h1___1_4), h1___2_4, (by rw [hE9]; exact hfam_P_4), hfr_4⟩ dX9_perform_73
        · skip
          have c_24 := (not_congr (nI_leI (by omega) (by omega))).mp c_24
          refine lv_aload_n hx hb dX9_perform_27 rfl (lv_at hl 1 rfl) ?_
          refine lv_iload_n hx hb dX9_perform_28 rfl (lv_at hl 0 rfl) ?_
          refine kVi (As := [.int (nI (c9))]) (rest := []) S hK hP (c_X7_figureAt l D cy ad N g_4 (98 + 2 * i) (by omega) (98 + 2 * i + 1) (by omega) (Vl i) (VV i) hfc_6 hfc_5 (by omega) hVli (hVV i) c9 (by omega)) cv_X9_263 (by omega) hfc_6 ⟨_, _, rfl⟩ ⟨rfl, rfl⟩ rfl hl.1 rfl (Nat.le_of_ble_eq_true rfl) ⟨Nat.zero_le _, Nat.zero_le _⟩ dX9_perform_29 (fun r_29 q_29 => ?_)
          subst q_29
          refine tpi (if_pos (by omega)) ?_
          refine lv_istore (lv' := [(4, .int (nI (VV i c9))), (3, .int (nI (c9))), (2, .ref (ad (98 + 2 * i))), (0, .ref (ad 0)), (1, .int (nI (i)))]) hx hb dX9_perform_32 hl (by decide) rfl (fun ls hl => ?_)
          refine lv_aload_n hx hb dX9_perform_34 rfl (lv_at hl 3 rfl) ?_
          refine lv_iload hx hb dX9_perform_35 (lv_at hl 0 rfl) ?_
          refine kVi (As := [.int (nI (VV i c9))]) (rest := []) S hK hP (c_X9_isFigure l D cy ad N g_4 (by omega) qc fc lf l3 vc h0_4 ff h52_4 hfc (nI (VV i c9))) cv_X9_197 (by omega) h0_4 ⟨_, _, rfl⟩ ⟨rfl, rfl⟩ rfl hl.1 rfl (Nat.le_of_ble_eq_true rfl) ⟨Nat.zero_le _, Nat.zero_le _⟩ dX9_perform_37 (fun r_37 q_37 => ?_)
          subst q_37
          refine lv_if_eq (tgt := 63) hx hb dX9_perform_40 (by decide) (fun c_40 => ?_) (fun c_40 => ?_)
          · skip
            have c_40 := bz_eq.mp c_40
            have hO9 := hor.trans (pfA_n (by omega) (fun q => c_40 ((isI_nI (by omega) (by omega)).mpr q)))
            have hF9 := hfk
            refine lv_iinc (v := nI (c9 + 1)) (lv' := [(3, .int (nI (c9 + 1))), (4, .int (nI (VV i c9))), (2, .ref (ad (98 + 2 * i))), (0, .ref (ad 0)), (1, .int (nI (i)))]) hx hb dX9_perform_63 hl (k := 1) rfl (by exact nI_add c9 1) (by decide) rfl (fun ls hl => ?_)
            refine lv_goto (tgt := 19) hx hb dX9_perform_66 (by decide) ?_
            exact ih19 (c9 + 1) w3 P3 n3 u3 r3 l3 (by omega) hO9 hF9 (by omega) g_4 _ _ h0_4 h1_4 h1___1_4 h1___2_4 hfam_P_4 hfr_4 hP hS _ (lv_sub hl [0, 2, 3, 4] rfl)
          · skip
            have c_40 := bz_ne.mp c_40
            have hq40 := (isI_nI (by omega) (by omega)).mp c_40
            have hF9 := rn_fok (B := FB (VV i c9)) (len := Fl (VV i c9)) (b0 := 0) hfk (Fl (VV i c9))
            refine lv_aload_n hx hb dX9_perform_43 rfl (lv_at hl 3 rfl) ?_
            refine lv_aload_n hx hb dX9_perform_44 rfl (lv_at hl 3 rfl) ?_
            refine mg S hK hP (by omega) h0_4 fd_X9_53 rfl dX9_perform_45 ?_
            refine lv_iload hx hb dX9_perform_48 (lv_at hl 0 rfl) ?_
            have hf9_7 : VV i c9 < 8 := by omega
            have hfc_8 : g_4 (82 + 2 * (VV i c9) + 1) = .inl (cy 0, 200, .inl (fun x9 => nI ((FB (VV i c9)) x9))) := hfam_FB_4 (VV i c9) hf9_7
            have hfc_9 : g_4 (82 + 2 * (VV i c9)) = .inr (0, [.ref (ad (82 + 2 * (VV i c9) + 1)), .int (nI (Fl (VV i c9)))]) := hfam_FO_4 (VV i c9) hf9_7
            refine mial7 S hK hP (by omega) h52_4 rfl (vp_in_nI (by omega) (by omega)) (a := ad (82 + 2 * (VV i c9))) ((congrArg ff (nI_clamp (by omega))).trans (hfj _ hf9_7)) dX9_perform_50 ?_
            refine lv_iconst (v := nI (0)) hx hb dX9_perform_51 (by decide) ?_
            refine kMi (As := [.ref (ad (82 + 2 * (VV i c9))), .int (nI (0))]) (rest := []) S hK hP hS (fun _ h => h) (c_X9_doneOnFloor l D cy ad N g_4 hinj (by omega) qc fc lf l3 vc h0_4 n3 u3 r3 h1_4 w3 h1___1_4 fa h1___2_4 hfa P3 hfam_P_4 hfk.2.2.1 hfk.2.2.2 hfk.1 hfk.2.1 (82 + 2 * (VV i c9)) (by omega) (82 + 2 * (VV i c9) + 1) (by omega) (Fl (VV i c9)) (FB (VV i c9)) hfc_9 hfc_8 (by omega) (hFl _) (hFB _) (by omega) 0 (by omega)) cv_X9_214 (by omega) h0_4 ⟨_, _, rfl⟩ ⟨rfl, rfl⟩ rfl hl.1 rfl (Nat.le_of_ble_eq_true rfl) ⟨Nat.zero_le _, Nat.zero_le _⟩ dX9_perform_52 (fun r_52 g_10 H locs q_10 hP hS => ?_)
            obtain ⟨q_52, h0_10, h1_10, h1___1_10, h1___2_10, hfam_P_10, f_10⟩ := q_10
            subst q_52
            have h52_10 : g_10 52 = .inl (cy 3, 8, .inr (.inr (.inr (.inr ff)))) := (f_10 52 (by omega)).trans h52_4
            have h53_10 : g_10 53 = .inl (cy 5, 4, .inr (.inr (.inr (.inr vf)))) := (f_10 53 (by omega)).trans h53_4
            have h98___2___i___1_10 : g_10 (98 + 2 * i + 1) = .inl (cy 1, 16, .inl (fun x9 => nI ((VV i) x9))) := (f_10 (98 + 2 * i + 1) (by omega)).trans hfc_5
            have h98___2___i_10 : g_10 (98 + 2 * i) = .inr (7, [.ref (ad (98 + 2 * i + 1)), .int (nI (Vl i))]) := (f_10 (98 + 2 * i) (by omega)).trans hfc_6
            have h82___2____VV_i_c9____1_10 : g_10 (82 + 2 * (VV i c9) + 1) = .inl (cy 0, 200, .inl (fun x9 => nI ((FB (VV i c9)) x9))) := (f_10 (82 + 2 * (VV i c9) + 1) (by omega)).trans hfc_8
            have h82___2____VV_i_c9__10 : g_10 (82 + 2 * (VV i c9)) = .inr (0, [.ref (ad (82 + 2 * (VV i c9) + 1)), .int (nI (Fl (VV i c9)))]) := (f_10 (82 + 2 * (VV i c9)) (by omega)).trans hfc_9
            have hfam_VO_10 : (∀ j : Nat, j < 4 → g_10 (98 + 2 * j) = .inr (7, [.ref (ad (98 + 2 * j + 1)), .int (nI (Vl j))])) := fun j hj => (f_10 (98 + 2 * j) (by omega)).trans (hfam_VO_4 j hj)
            have hfam_VB_10 : (∀ j : Nat, j < 4 → g_10 (98 + 2 * j + 1) = .inl (cy 1, 16, .inl (fun x9 => nI ((VV j) x9)))) := fun j hj => (f_10 (98 + 2 * j + 1) (by omega)).trans (hfam_VB_4 j hj)
            have hfam_FO_10 : (∀ j : Nat, j < 8 → g_10 (82 + 2 * j) = .inr (0, [.ref (ad (82 + 2 * j + 1)), .int (nI (Fl j))])) := fun j hj => (f_10 (82 + 2 * j) (by omega)).trans (hfam_FO_4 j hj)
            have hfam_FB_10 : (∀ j : Nat, j < 8 → g_10 (82 + 2 * j + 1) = .inl (cy 0, 200, .inl (fun x9 => nI ((FB j) x9)))) := fun j hj => (f_10 (82 + 2 * j + 1) (by omega)).trans (hfam_FB_4 j hj)
            have hfr_10 : ∀ j : Nat, (j < 0 ∨ 17 ≤ j) → g_10 j = g j := fun j n0 => (f_10 j n0).trans (hfr_4 j n0)
            refine lv_if_ge (tgt := 63) hx hb dX9_perform_55 (by decide) (fun c_55 => ?_) (fun c_55 => ?_)
            · skip
              have hO9 := hor.trans (pfA_g (by omega) hq40 (Int32.not_lt.mpr c_55))
              refine lv_iinc (v := nI (c9 + 1)) (lv' := [(3, .int (nI (c9 + 1))), (4, .int (nI (VV i c9))), (2, .ref (ad (98 + 2 * i))), (0, .ref (ad 0)), (1, .int (nI (i)))]) hx hb dX9_perform_63 hl (k := 1) rfl (by exact nI_add c9 1) (by decide) rfl (fun ls hl => ?_)
              refine lv_goto (tgt := 19) hx hb dX9_perform_66 (by decide) ?_
              exact ih19 (c9 + 1) ((rn (FB (VV i c9)) (Fl (VV i c9)) 0 (w3, P3, n3, u3) (Fl (VV i c9))).2.2.1) ((rn (FB (VV i c9)) (Fl (VV i c9)) 0 (w3, P3, n3, u3) (Fl (VV i c9))).2.2.2.1) ((rn (FB (VV i c9)) (Fl (VV i c9)) 0 (w3, P3, n3, u3) (Fl (VV i c9))).2.2.2.2.1) ((rn (FB (VV i c9)) (Fl (VV i c9)) 0 (w3, P3, n3, u3) (Fl (VV i c9))).2.2.2.2.2) ((rn (FB (VV i c9)) (Fl (VV i c9)) 0 (w3, P3, n3, u3) (Fl (VV i c9))).2.1) ((rn (FB (VV i c9)) (Fl (VV i c9)) 0 (w3, P3, n3, u3) (Fl (VV i c9))).2.1) (by omega) hO9 hF9 (by omega) g_10 _ _ h0_10 h1_10 h1___1_10 h1___2_10 hfam_P_10 hfr_10 hP hS _ (lv_sub hl [0, 2, 3, 4] rfl)
            · skip
              have hE9 := hor.trans (pfA_s (by omega) hq40 (Int32.not_le.mp c_55))
              refine lv_bipush (v := (-100)) hx hb dX9_perform_58 (by decide) ?_
              refine lv_iload_n hx hb dX9_perform_60 rfl (lv_at hl 1 rfl) ?_
              refine lv_isub hx hb dX9_perform_61 ?_
              exact rMi S hr hlk hP hS ⟨(by rw [hE9]), (by rw [hE9]; exact h0_10), (by rw [hE9]; exact h1_10), (by rw [hE9]; exact h1___1_10), h1___2_10, (by rw [hE9]; exact hfam_P_10), hfr_10⟩ dX9_perform_62
    exact L19 ((Vl i - 0) + 1) 0 w Pw nx0 un rf lt (by omega) (by rw [if_pos hJ, eix]; rfl) ⟨hw, hPw, hnx, hun⟩ (Nat.lt_succ_self _) g _ _ hX hg hgn hga hfam (fun j n0 => hfr j ) hP hS _ (lv_sub hl [0, 1, 2, 3] rfl)
  · skip
    have c_5 := bz_eq.mp c_5
    have hJ : ¬ isI x0 vc := c_5
    have hE9 : (if isI x0 vc then pfA FB Fl fc (VV x0.toNatClampNeg) (Vl x0.toNatClampNeg) (Vl x0.toNatClampNeg) ((w, Pw, nx0, un), rf, lt) 0 else (-1, (w, Pw, nx0, un), rf, lt)) = (-1, (w, Pw, nx0, un), rf, lt) := if_neg hJ
    refine lv_iconst (v := (-1)) hx hb dX9_perform_8 (by decide) ?_
    exact rMi S hr hlk hP hS ⟨(by rw [hE9]), (by rw [hE9]; exact hX), (by rw [hE9]; exact hg), (by rw [hE9]; exact hgn), hga, (by rw [hE9]; exact hfam), (fun j n0 => hfr j )⟩ dX9_perform_9


set_option maxHeartbeats 4000000 in
set_option maxRecDepth 100000 in
theorem c_X9_mirrors (l : Launch) (D : va_G) (cy : Nat → ClassId) (ad : Nat → Nat) (N : Nat) (g : Nat → va_E) (hinj : ∀ i j : Nat, i < N → j < N → ad i = ad j → i = j) (hN : 114 ≤ N) (qc : Nat) (fc : Nat) (lf : Int32) (lt : Int32) (vc : Nat) (hX : g 0 = .inr (9, [.ref (ad 1), .ref (ad 17), .ref (ad 33), .ref (ad 34), .int (nI (qc)), .ref (ad 35), .ref (ad 45), .ref (ad 47), .ref (ad 52), .int (nI (fc)), .int lf, .int lt, .ref (ad 53), .int (nI (vc)), .ref (ad 54), .ref (ad 75)])) (nx0 : Nat) (un : Nat) (rf : Int32) (hg : g 1 = .inr (1, [.ref (ad (1 + 1)), .ref (ad (1 + 2)), .int (nI (nx0)), .int (nI (un)), .int rf])) (w : WT) (hgn : g (1 + 1) = .inr (8, [.int (nI (wn w)), .long (lN (sea (wd w) (wn w))), .int (nI (wf w)), .int (nI (wh w)), .long (lN (wo w))])) (fa : Nat → Option Nat) (hga : g (1 + 2) = .inl (cy 6, 13, .inr (.inr (.inr (.inr fa))))) (hfa : ∀ j, j < 13 → fa j = some (ad (1 + 3 + j))) (Pw : Nat → WT) (hfam : (∀ j : Nat, j < 13 → g (1 + 3 + j) = .inr (8, [.int (nI (wn (Pw j))), .long (lN (sea (wd (Pw j)) (wn (Pw j)))), .int (nI (wf (Pw j))), .int (nI (wh (Pw j))), .long (lN (wo (Pw j)))]))) (hnx : nx0 < 13) (hun : un ≤ 12) (hw : WOK w) (hPw : ∀ j, j < 13 → WOK (Pw j)) (nxt : Nat) (unt : Nat) (rft : Int32) (hgt : g 17 = .inr (1, [.ref (ad (17 + 1)), .ref (ad (17 + 2)), .int (nI (nxt)), .int (nI (unt)), .int rft])) (wt : WT) (hgnt : g (17 + 1) = .inr (8, [.int (nI (wn wt)), .long (lN (sea (wd wt) (wn wt))), .int (nI (wf wt)), .int (nI (wh wt)), .long (lN (wo wt))])) (fat : Nat → Option Nat) (hgat : g (17 + 2) = .inl (cy 6, 13, .inr (.inr (.inr (.inr fat))))) (hfat : ∀ j, j < 13 → fat j = some (ad (17 + 3 + j))) (Pwt : Nat → WT) (hfamt : (∀ j : Nat, j < 13 → g (17 + 3 + j) = .inr (8, [.int (nI (wn (Pwt j))), .long (lN (sea (wd (Pwt j)) (wn (Pwt j)))), .int (nI (wf (Pwt j))), .int (nI (wh (Pwt j))), .long (lN (wo (Pwt j)))]))) (hnxt : nxt < 13) (hunt : unt ≤ 12) (hwt : WOK wt) (hPwt : ∀ j, j < 13 → WOK (Pwt j)) (ff : Nat → Option Nat) (hff : g 52 = .inl (cy 3, 8, .inr (.inr (.inr (.inr ff))))) (hfc : fc ≤ 8) (hfj : ∀ j, j < 8 → ff j = some (ad (82 + 2 * j))) (Fl : Nat → Nat) (hFo : (∀ j : Nat, j < 8 → g (82 + 2 * j) = .inr (0, [.ref (ad (82 + 2 * j + 1)), .int (nI (Fl j))]))) (hFl : ∀ j, Fl j ≤ 200) (FB : Nat → Nat → Nat) (hFb : (∀ j : Nat, j < 8 → g (82 + 2 * j + 1) = .inl (cy 0, 200, .inl (fun x9 => nI ((FB j) x9))))) (hFB : ∀ j i, FB j i < 64) (x0 : Int32) : Met l yX9_mirrors (WS yX9_mirrors cX9_mirrors 2 (some .int)) (rmF 6 140) (PP [.ref (ad 0), .int x0] D cy ad N g) (QI (fun r g1 => ∃ (wt2 : WT), ∃ (Pt2 : Nat → WT), ∃ (nt2 : Nat), ∃ (ut2 : Nat), ∃ (rt2 : Int32), (r = if isI x0 fc then (if (rn (FB x0.toNatClampNeg) (Fl x0.toNatClampNeg) 0 (w, Pwt, nxt, unt) (Fl x0.toNatClampNeg)).2.1 = 0 then (if (rn (FB x0.toNatClampNeg) (Fl x0.toNatClampNeg) 1 (rn (FB x0.toNatClampNeg) (Fl x0.toNatClampNeg) 0 (w, Pwt, nxt, unt) (Fl x0.toNatClampNeg)).2.2 (Fl x0.toNatClampNeg)).2.1 = 0 then 1 else 2) else 0) else -1) ∧ (FOK (wt2, Pt2, nt2, ut2)) ∧ g1 17 = .inr (1, [.ref (ad (17 + 1)), .ref (ad (17 + 2)), .int (nI (nt2)), .int (nI (ut2)), .int rt2]) ∧ g1 (17 + 1) = .inr (8, [.int (nI (wn wt2)), .long (lN (sea (wd wt2) (wn wt2))), .int (nI (wf wt2)), .int (nI (wh wt2)), .long (lN (wo wt2))]) ∧ g1 (17 + 2) = .inl (cy 6, 13, .inr (.inr (.inr (.inr fat)))) ∧ (∀ j : Nat, j < 13 → g1 (17 + 3 + j) = .inr (8, [.int (nI (wn (Pt2 j))), .long (lN (sea (wd (Pt2 j)) (wn (Pt2 j)))), .int (nI (wf (Pt2 j))), .int (nI (wh (Pt2 j))), .long (lN (wo (Pt2 j)))])) ∧ (∀ j, (j < 17 ∨ 33 ≤ j) → g1 j = g j)) D ad N) 0 0 (AA ad N) := by
  refine mentry (by decide) (Nat.le_of_ble_eq_true rfl) (fun p e s m below meth c ls S hr hlk hnm hP hK hl => ?_)
  have S : CallFix p m c cX9_mirrors 2 s _ wsL_law RX9 := S
  have hx := S.1
  have hb := S.2.1
  have hl : lv_has ls 2 [(0, .ref (ad 0)), (1, .int x0)] := hl
  have hI : MD (AA ad N) ad N := MD.in hinj
  have hS : va_S (AA ad N) s.heap s.heap [] := va_S.rf
  have hfr : ∀ j : Nat, g j = g j := fun _ => rfl
  refine lv_aload_n hx hb dX9_mirrors_0 rfl (lv_at hl 0 rfl) ?_
  refine lv_iload_n hx hb dX9_mirrors_1 rfl (lv_at hl 1 rfl) ?_
  refine kVi (As := [.int x0]) (rest := []) S hK hP (c_X9_isFigure l D cy ad N g (by omega) qc fc lf lt vc hX ff hff hfc x0) cv_X9_197 (by omega) hX ⟨_, _, rfl⟩ ⟨rfl, rfl⟩ rfl hl.1 rfl (Nat.le_of_ble_eq_true rfl) ⟨Nat.zero_le _, Nat.zero_le _⟩ dX9_mirrors_2 (fun r_2 q_2 => ?_)
  subst q_2
  refine lv_if_ne (tgt := 10) hx hb dX9_mirrors_5 (by decide) (fun c_5 => ?_) (fun c_5 => ?_)
  · skip
    have c_5 := bz_ne.mp c_5
    have hJ := c_5
    obtain ⟨i, hib, rfl⟩ := isI_nat (by omega) c_5
    have hib9 : i < 2 ^ 31 := by omega
    have hF1 := rn_fok (B := FB i) (len := Fl i) (b0 := 0) (F0 := (w, Pwt, nxt, unt)) ⟨hw, hPwt, hnxt, hunt⟩ (Fl i)
    have hF2 := rn_fok (B := FB i) (len := Fl i) (b0 := 1) (F0 := (rn (FB i) (Fl i) 0 (w, Pwt, nxt, unt) (Fl i)).2.2) hF1 (Fl i)
    refine lv_aload_n hx hb dX9_mirrors_10 rfl (lv_at hl 0 rfl) ?_
    refine mg S hK hP (by omega) hX fd_X9_16 rfl dX9_mirrors_11 ?_
    refine mg S hK hP (by omega) hgt fd_X9_79 rfl dX9_mirrors_14 ?_
    refine lv_aload_n hx hb dX9_mirrors_17 rfl (lv_at hl 0 rfl) ?_
    refine mg S hK hP (by omega) hX fd_X9_10 rfl dX9_mirrors_18 ?_
    refine mg S hK hP (by omega) hg fd_X9_79 rfl dX9_mirrors_21 ?_
    refine kMv (As := [.ref (ad (1 + 1))]) (rest := []) S hK hP hS (fun _ h => h) (c_X8_becomeW l D cy ad N g hinj (17 + 1) (by omega) wt hgnt (1 + 1) (by omega) w hgn (by omega)) cv_X9_160 (by omega) hgnt ⟨_, _, rfl⟩ ⟨rfl, rfl⟩ rfl hl.1 rfl (Nat.le_of_ble_eq_true rfl) ⟨Nat.zero_le _, Nat.zero_le _⟩ dX9_mirrors_24 (fun g_1 H locs q_1 hP hS => ?_)
    obtain ⟨h_17___1__1, f_1⟩ := q_1
    have h0_1 : g_1 0 = .inr (9, [.ref (ad 1), .ref (ad 17), .ref (ad 33), .ref (ad 34), .int (nI (qc)), .ref (ad 35), .ref (ad 45), .ref (ad 47), .ref (ad 52), .int (nI (fc)), .int lf, .int lt, .ref (ad 53), .int (nI (vc)), .ref (ad 54), .ref (ad 75)]) := (f_1 0 (by omega)).trans hX
    have h52_1 : g_1 52 = .inl (cy 3, 8, .inr (.inr (.inr (.inr ff)))) := (f_1 52 (by omega)).trans hff
    have h1_1 : g_1 1 = .inr (1, [.ref (ad (1 + 1)), .ref (ad (1 + 2)), .int (nI (nx0)), .int (nI (un)), .int rf]) := (f_1 1 (by omega)).trans hg
    have h1___1_1 : g_1 (1 + 1) = .inr (8, [.int (nI (wn w)), .long (lN (sea (wd w) (wn w))), .int (nI (wf w)), .int (nI (wh w)), .long (lN (wo w))]) := (f_1 (1 + 1) (by omega)).trans hgn
    have h1___2_1 : g_1 (1 + 2) = .inl (cy 6, 13, .inr (.inr (.inr (.inr fa)))) := (f_1 (1 + 2) (by omega)).trans hga
    have h17_1 : g_1 17 = .inr (1, [.ref (ad (17 + 1)), .ref (ad (17 + 2)), .int (nI (nxt)), .int (nI (unt)), .int rft]) := (f_1 17 (by omega)).trans hgt
    have h17___2_1 : g_1 (17 + 2) = .inl (cy 6, 13, .inr (.inr (.inr (.inr fat)))) := (f_1 (17 + 2) (by omega)).trans hgat
    have hfam_P_1 : (∀ j : Nat, j < 13 → g_1 (1 + 3 + j) = .inr (8, [.int (nI (wn (Pw j))), .long (lN (sea (wd (Pw j)) (wn (Pw j)))), .int (nI (wf (Pw j))), .int (nI (wh (Pw j))), .long (lN (wo (Pw j)))])) := fun j hj => (f_1 (1 + 3 + j) (by omega)).trans (hfam j hj)
    have hfam_PT_1 : (∀ j : Nat, j < 13 → g_1 (17 + 3 + j) = .inr (8, [.int (nI (wn (Pwt j))), .long (lN (sea (wd (Pwt j)) (wn (Pwt j)))), .int (nI (wf (Pwt j))), .int (nI (wh (Pwt j))), .long (lN (wo (Pwt j)))])) := fun j hj => (f_1 (17 + 3 + j) (by omega)).trans (hfamt j hj)
    have hfam_FO_1 : (∀ j : Nat, j < 8 → g_1 (82 + 2 * j) = .inr (0, [.ref (ad (82 + 2 * j + 1)), .int (nI (Fl j))])) := fun j hj => (f_1 (82 + 2 * j) (by omega)).trans (hFo j hj)
    have hfam_FB_1 : (∀ j : Nat, j < 8 → g_1 (82 + 2 * j + 1) = .inl (cy 0, 200, .inl (fun x9 => nI ((FB j) x9)))) := fun j hj => (f_1 (82 + 2 * j + 1) (by omega)).trans (hFb j hj)
    have hfr_1 : ∀ j : Nat, j ≠ (17 + 1) → g_1 j = g j := fun j n0 => (f_1 j n0).trans (hfr j )
    refine lv_aload_n hx hb dX9_mirrors_27 rfl (lv_at hl 0 rfl) ?_
    refine mg S hK hP (by omega) h0_1 fd_X9_16 rfl dX9_mirrors_28 ?_
    refine lv_aload_n hx hb dX9_mirrors_31 rfl (lv_at hl 0 rfl) ?_
    refine mg S hK hP (by omega) h0_1 fd_X9_53 rfl dX9_mirrors_32 ?_
    refine lv_iload_n hx hb dX9_mirrors_35 rfl (lv_at hl 1 rfl) ?_
    have hf9_2 : i < 8 := by omega
    have hfc_3 : g_1 (82 + 2 * i + 1) = .inl (cy 0, 200, .inl (fun x9 => nI ((FB i) x9))) := hfam_FB_1 i hf9_2
    have hfc_4 : g_1 (82 + 2 * i) = .inr (0, [.ref (ad (82 + 2 * i + 1)), .int (nI (Fl i))]) := hfam_FO_1 i hf9_2
    refine mial7 S hK hP (by omega) h52_1 rfl (vp_in_nI (by omega) (by omega)) (a := ad (82 + 2 * i)) ((congrArg ff (nI_clamp (by omega))).trans (hfj _ hf9_2)) dX9_mirrors_36 ?_
    refine lv_iconst (v := nI (0)) hx hb dX9_mirrors_37 (by decide) ?_
    refine kMi (As := [.ref (ad (82 + 2 * i)), .int (nI (0))]) (rest := []) S hK hP hS (fun _ h => h) (c_X1_run l D cy ad N g_1 hinj 17 (by omega) nxt unt rft h17_1 w h_17___1__1 fat h17___2_1 hfat Pwt hfam_PT_1 hnxt hunt hw hPwt (82 + 2 * i) (by omega) (82 + 2 * i + 1) (by omega) (Fl i) (FB i) hfc_4 hfc_3 (by omega) (hFl i) (hFB i) (by omega) 0 (by omega)) cv_X9_221 (by omega) h17_1 ⟨_, _, rfl⟩ ⟨rfl, rfl⟩ rfl hl.1 rfl (Nat.le_of_ble_eq_true rfl) ⟨Nat.zero_le _, Nat.zero_le _⟩ dX9_mirrors_38 (fun r_38 g_5 H locs q_5 hP hS => ?_)
    obtain ⟨q_38, h17_5, h17___1_5, h17___2_5, hfam_PT_5, f_5⟩ := q_5
    subst q_38
    have h0_5 : g_5 0 = .inr (9, [.ref (ad 1), .ref (ad 17), .ref (ad 33), .ref (ad 34), .int (nI (qc)), .ref (ad 35), .ref (ad 45), .ref (ad 47), .ref (ad 52), .int (nI (fc)), .int lf, .int lt, .ref (ad 53), .int (nI (vc)), .ref (ad 54), .ref (ad 75)]) := (f_5 0 (by omega)).trans h0_1
    have h52_5 : g_5 52 = .inl (cy 3, 8, .inr (.inr (.inr (.inr ff)))) := (f_5 52 (by omega)).trans h52_1
    have h1_5 : g_5 1 = .inr (1, [.ref (ad (1 + 1)), .ref (ad (1 + 2)), .int (nI (nx0)), .int (nI (un)), .int rf]) := (f_5 1 (by omega)).trans h1_1
    have h1___1_5 : g_5 (1 + 1) = .inr (8, [.int (nI (wn w)), .long (lN (sea (wd w) (wn w))), .int (nI (wf w)), .int (nI (wh w)), .long (lN (wo w))]) := (f_5 (1 + 1) (by omega)).trans h1___1_1
    have h1___2_5 : g_5 (1 + 2) = .inl (cy 6, 13, .inr (.inr (.inr (.inr fa)))) := (f_5 (1 + 2) (by omega)).trans h1___2_1
    have h82___2___i___1_5 : g_5 (82 + 2 * i + 1) = .inl (cy 0, 200, .inl (fun x9 => nI ((FB i) x9))) := (f_5 (82 + 2 * i + 1) (by omega)).trans hfc_3
    have h82___2___i_5 : g_5 (82 + 2 * i) = .inr (0, [.ref (ad (82 + 2 * i + 1)), .int (nI (Fl i))]) := (f_5 (82 + 2 * i) (by omega)).trans hfc_4
    have hfam_P_5 : (∀ j : Nat, j < 13 → g_5 (1 + 3 + j) = .inr (8, [.int (nI (wn (Pw j))), .long (lN (sea (wd (Pw j)) (wn (Pw j)))), .int (nI (wf (Pw j))), .int (nI (wh (Pw j))), .long (lN (wo (Pw j)))])) := fun j hj => (f_5 (1 + 3 + j) (by omega)).trans (hfam_P_1 j hj)
    have hfam_FO_5 : (∀ j : Nat, j < 8 → g_5 (82 + 2 * j) = .inr (0, [.ref (ad (82 + 2 * j + 1)), .int (nI (Fl j))])) := fun j hj => (f_5 (82 + 2 * j) (by omega)).trans (hfam_FO_1 j hj)
    have hfam_FB_5 : (∀ j : Nat, j < 8 → g_5 (82 + 2 * j + 1) = .inl (cy 0, 200, .inl (fun x9 => nI ((FB j) x9)))) := fun j hj => (f_5 (82 + 2 * j + 1) (by omega)).trans (hfam_FB_1 j hj)
    have hfr_5 : ∀ j : Nat, j ≠ (17 + 1) → (j < 17 ∨ 17 + 16 ≤ j) → g_5 j = g j := fun j n0 n1 => (f_5 j n1).trans (hfr_1 j n0)
    refine lv_pop hx hb dX9_mirrors_41 rfl ?_
    refine lv_aload_n hx hb dX9_mirrors_42 rfl (lv_at hl 0 rfl) ?_
    refine mg S hK hP (by omega) h0_5 fd_X9_16 rfl dX9_mirrors_43 ?_
    refine mg S hK hP (by omega) h17_5 fd_X9_224 rfl dX9_mirrors_46 ?_
    refine lv_if_eq (tgt := 54) hx hb dX9_mirrors_49 (by decide) (fun c_49 => ?_) (fun c_49 => ?_)
    · skip
      refine lv_aload_n hx hb dX9_mirrors_54 rfl (lv_at hl 0 rfl) ?_
      refine mg S hK hP (by omega) h0_5 fd_X9_16 rfl dX9_mirrors_55 ?_
      refine lv_aload_n hx hb dX9_mirrors_58 rfl (lv_at hl 0 rfl) ?_
      refine mg S hK hP (by omega) h0_5 fd_X9_53 rfl dX9_mirrors_59 ?_
      refine lv_iload_n hx hb dX9_mirrors_62 rfl (lv_at hl 1 rfl) ?_
      have hf9_6 : i < 8 := by omega
      refine mial7 S hK hP (by omega) h52_5 rfl (vp_in_nI (by omega) (by omega)) (a := ad (82 + 2 * i)) ((congrArg ff (nI_clamp (by omega))).trans (hfj _ hf9_6)) dX9_mirrors_63 ?_
      refine lv_iconst (v := nI (1)) hx hb dX9_mirrors_64 (by decide) ?_
      refine kMi (As := [.ref (ad (82 + 2 * i)), .int (nI (1))]) (rest := []) S hK hP hS (fun _ h => h) (c_X1_run l D cy ad N g_5 hinj 17 (by omega) ((rn (FB i) (Fl i) 0 (w, Pwt, nxt, unt) (Fl i)).2.2.2.2.1) ((rn (FB i) (Fl i) 0 (w, Pwt, nxt, unt) (Fl i)).2.2.2.2.2) ((rn (FB i) (Fl i) 0 (w, Pwt, nxt, unt) (Fl i)).2.1) h17_5 ((rn (FB i) (Fl i) 0 (w, Pwt, nxt, unt) (Fl i)).2.2.1) h17___1_5 fat h17___2_5 hfat ((rn (FB i) (Fl i) 0 (w, Pwt, nxt, unt) (Fl i)).2.2.2.1) hfam_PT_5 hF1.2.2.1 hF1.2.2.2 hF1.1 hF1.2.1 (82 + 2 * i) (by omega) (82 + 2 * i + 1) (by omega) (Fl i) (FB i) h82___2___i_5 h82___2___i___1_5 (by omega) (hFl i) (hFB i) (by omega) 1 (by omega)) cv_X9_221 (by omega) h17_5 ⟨_, _, rfl⟩ ⟨rfl, rfl⟩ rfl hl.1 rfl (Nat.le_of_ble_eq_true rfl) ⟨Nat.zero_le _, Nat.zero_le _⟩ dX9_mirrors_65 (fun r_65 g_7 H locs q_7 hP hS => ?_)
      obtain ⟨q_65, h17_7, h17___1_7, h17___2_7, hfam_PT_7, f_7⟩ := q_7
      subst q_65
      have h0_7 : g_7 0 = .inr (9, [.ref (ad 1), .ref (ad 17), .ref (ad 33), .ref (ad 34), .int (nI (qc)), .ref (ad 35), .ref (ad 45), .ref (ad 47), .ref (ad 52), .int (nI (fc)), .int lf, .int lt, .ref (ad 53), .int (nI (vc)), .ref (ad 54), .ref (ad 75)]) := (f_7 0 (by omega)).trans h0_5
      have h52_7 : g_7 52 = .inl (cy 3, 8, .inr (.inr (.inr (.inr ff)))) := (f_7 52 (by omega)).trans h52_5
      have h1_7 : g_7 1 = .inr (1, [.ref (ad (1 + 1)), .ref (ad (1 + 2)), .int (nI (nx0)), .int (nI (un)), .int rf]) := (f_7 1 (by omega)).trans h1_5
      have h1___1_7 : g_7 (1 + 1) = .inr (8, [.int (nI (wn w)), .long (lN (sea (wd w) (wn w))), .int (nI (wf w)), .int (nI (wh w)), .long (lN (wo w))]) := (f_7 (1 + 1) (by omega)).trans h1___1_5
      have h1___2_7 : g_7 (1 + 2) = .inl (cy 6, 13, .inr (.inr (.inr (.inr fa)))) := (f_7 (1 + 2) (by omega)).trans h1___2_5
      have h82___2___i___1_7 : g_7 (82 + 2 * i + 1) = .inl (cy 0, 200, .inl (fun x9 => nI ((FB i) x9))) := (f_7 (82 + 2 * i + 1) (by omega)).trans h82___2___i___1_5
      have h82___2___i_7 : g_7 (82 + 2 * i) = .inr (0, [.ref (ad (82 + 2 * i + 1)), .int (nI (Fl i))]) := (f_7 (82 + 2 * i) (by omega)).trans h82___2___i_5
      have hfam_P_7 : (∀ j : Nat, j < 13 → g_7 (1 + 3 + j) = .inr (8, [.int (nI (wn (Pw j))), .long (lN (sea (wd (Pw j)) (wn (Pw j)))), .int (nI (wf (Pw j))), .int (nI (wh (Pw j))), .long (lN (wo (Pw j)))])) := fun j hj => (f_7 (1 + 3 + j) (by omega)).trans (hfam_P_5 j hj)
      have hfam_FO_7 : (∀ j : Nat, j < 8 → g_7 (82 + 2 * j) = .inr (0, [.ref (ad (82 + 2 * j + 1)), .int (nI (Fl j))])) := fun j hj => (f_7 (82 + 2 * j) (by omega)).trans (hfam_FO_5 j hj)
      have hfam_FB_7 : (∀ j : Nat, j < 8 → g_7 (82 + 2 * j + 1) = .inl (cy 0, 200, .inl (fun x9 => nI ((FB j) x9)))) := fun j hj => (f_7 (82 + 2 * j + 1) (by omega)).trans (hfam_FB_5 j hj)
      have hfr_7 : ∀ j : Nat, j ≠ (17 + 1) → (j < 17 ∨ 17 + 16 ≤ j) → g_7 j = g j := fun j n0 n1 => (f_7 j n1).trans (hfr_5 j n0 n1)
      refine lv_pop hx hb dX9_mirrors_68 rfl ?_
      refine lv_aload_n hx hb dX9_mirrors_69 rfl (lv_at hl 0 rfl) ?_
      refine mg S hK hP (by omega) h0_7 fd_X9_16 rfl dX9_mirrors_70 ?_
      refine mg S hK hP (by omega) h17_7 fd_X9_224 rfl dX9_mirrors_73 ?_
      refine lv_if_eq (tgt := 83) hx hb dX9_mirrors_76 (by decide) (fun c_76 => ?_) (fun c_76 => ?_)
      · skip
        refine lv_iconst (v := nI (1)) hx hb dX9_mirrors_83 (by decide) ?_
        exact rMi S hr hlk hP hS ⟨(rn (FB i) (Fl i) 1 (rn (FB i) (Fl i) 0 (w, Pwt, nxt, unt) (Fl i)).2.2 (Fl i)).2.2.1, (rn (FB i) (Fl i) 1 (rn (FB i) (Fl i) 0 (w, Pwt, nxt, unt) (Fl i)).2.2 (Fl i)).2.2.2.1, (rn (FB i) (Fl i) 1 (rn (FB i) (Fl i) 0 (w, Pwt, nxt, unt) (Fl i)).2.2 (Fl i)).2.2.2.2.1, (rn (FB i) (Fl i) 1 (rn (FB i) (Fl i) 0 (w, Pwt, nxt, unt) (Fl i)).2.2 (Fl i)).2.2.2.2.2, (rn (FB i) (Fl i) 1 (rn (FB i) (Fl i) 0 (w, Pwt, nxt, unt) (Fl i)).2.2 (Fl i)).2.1, (by simp only [if_pos hJ, nI_clamp hib9, if_pos c_49]; first | exact (if_pos c_76).symm | exact (if_neg c_76).symm), hF2, h17_7, h17___1_7, h17___2_7, hfam_PT_7, (fun j n0 => hfr_7 j (by omega) (by omega))⟩ dX9_mirrors_84
      · skip
        refine lv_iconst (v := nI (2)) hx hb dX9_mirrors_79 (by decide) ?_
        refine lv_goto (tgt := 84) hx hb dX9_mirrors_80 (by decide) ?_
        exact rMi S hr hlk hP hS ⟨(rn (FB i) (Fl i) 1 (rn (FB i) (Fl i) 0 (w, Pwt, nxt, unt) (Fl i)).2.2 (Fl i)).2.2.1, (rn (FB i) (Fl i) 1 (rn (FB i) (Fl i) 0 (w, Pwt, nxt, unt) (Fl i)).2.2 (Fl i)).2.2.2.1, (rn (FB i) (Fl i) 1 (rn (FB i) (Fl i) 0 (w, Pwt, nxt, unt) (Fl i)).2.2 (Fl i)).2.2.2.2.1, (rn (FB i) (Fl i) 1 (rn (FB i) (Fl i) 0 (w, Pwt, nxt, unt) (Fl i)).2.2 (Fl i)).2.2.2.2.2, (rn (FB i) (Fl i) 1 (rn (FB i) (Fl i) 0 (w, Pwt, nxt, unt) (Fl i)).2.2 (Fl i)).2.1, (by simp only [if_pos hJ, nI_clamp hib9, if_pos c_49]; first | exact (if_pos c_76).symm | exact (if_neg c_76).symm), hF2, h17_7, h17___1_7, h17___2_7, hfam_PT_7, (fun j n0 => hfr_7 j (by omega) (by omega))⟩ dX9_mirrors_84
    · skip
      refine lv_iconst (v := nI (0)) hx hb dX9_mirrors_52 (by decide) ?_
      exact rMi S hr hlk hP hS ⟨(rn (FB i) (Fl i) 0 (w, Pwt, nxt, unt) (Fl i)).2.2.1, (rn (FB i) (Fl i) 0 (w, Pwt, nxt, unt) (Fl i)).2.2.2.1, (rn (FB i) (Fl i) 0 (w, Pwt, nxt, unt) (Fl i)).2.2.2.2.1, (rn (FB i) (Fl i) 0 (w, Pwt, nxt, unt) (Fl i)).2.2.2.2.2, (rn (FB i) (Fl i) 0 (w, Pwt, nxt, unt) (Fl i)).2.1, (by simp only [if_pos hJ, nI_clamp hib9, if_neg c_49]; rfl), hF1, h17_5, h17___1_5, h17___2_5, hfam_PT_5, (fun j n0 => hfr_5 j (by omega) (by omega))⟩ dX9_mirrors_53
  · skip
    have c_5 := bz_eq.mp c_5
    have hJ : ¬ isI x0 fc := c_5
    refine lv_iconst (v := (-1)) hx hb dX9_mirrors_8 (by decide) ?_
    exact rMi S hr hlk hP hS ⟨wt, Pwt, nxt, unt, rft, (if_neg hJ).symm, ⟨hwt, hPwt, hnxt, hunt⟩, hgt, hgnt, hgat, hfamt, (fun j n0 => hfr j )⟩ dX9_mirrors_9

set_option maxHeartbeats 4000000 in
set_option maxRecDepth 100000 in
theorem c_X9_order (l : Launch) (D : va_G) (cy : Nat → ClassId) (ad : Nat → Nat) (N : Nat) (g : Nat → va_E) (hinj : ∀ i j : Nat, i < N → j < N → ad i = ad j → i = j) (hN : 114 ≤ N) (qc : Nat) (fc : Nat) (lf : Int32) (lt : Int32) (vc : Nat) (hX : g 0 = .inr (9, [.ref (ad 1), .ref (ad 17), .ref (ad 33), .ref (ad 34), .int (nI (qc)), .ref (ad 35), .ref (ad 45), .ref (ad 47), .ref (ad 52), .int (nI (fc)), .int lf, .int lt, .ref (ad 53), .int (nI (vc)), .ref (ad 54), .ref (ad 75)])) (nx0 : Nat) (un : Nat) (rf : Int32) (hg : g 1 = .inr (1, [.ref (ad (1 + 1)), .ref (ad (1 + 2)), .int (nI (nx0)), .int (nI (un)), .int rf])) (w : WT) (hgn : g (1 + 1) = .inr (8, [.int (nI (wn w)), .long (lN (sea (wd w) (wn w))), .int (nI (wf w)), .int (nI (wh w)), .long (lN (wo w))])) (fa : Nat → Option Nat) (hga : g (1 + 2) = .inl (cy 6, 13, .inr (.inr (.inr (.inr fa))))) (hfa : ∀ j, j < 13 → fa j = some (ad (1 + 3 + j))) (Pw : Nat → WT) (hfam : (∀ j : Nat, j < 13 → g (1 + 3 + j) = .inr (8, [.int (nI (wn (Pw j))), .long (lN (sea (wd (Pw j)) (wn (Pw j)))), .int (nI (wf (Pw j))), .int (nI (wh (Pw j))), .long (lN (wo (Pw j)))]))) (hnx : nx0 < 13) (hun : un ≤ 12) (hw : WOK w) (hPw : ∀ j, j < 13 → WOK (Pw j)) (nxt : Nat) (unt : Nat) (rft : Int32) (hgt : g 17 = .inr (1, [.ref (ad (17 + 1)), .ref (ad (17 + 2)), .int (nI (nxt)), .int (nI (unt)), .int rft])) (wt : WT) (hgnt : g (17 + 1) = .inr (8, [.int (nI (wn wt)), .long (lN (sea (wd wt) (wn wt))), .int (nI (wf wt)), .int (nI (wh wt)), .long (lN (wo wt))])) (fat : Nat → Option Nat) (hgat : g (17 + 2) = .inl (cy 6, 13, .inr (.inr (.inr (.inr fat))))) (hfat : ∀ j, j < 13 → fat j = some (ad (17 + 3 + j))) (Pwt : Nat → WT) (hfamt : (∀ j : Nat, j < 13 → g (17 + 3 + j) = .inr (8, [.int (nI (wn (Pwt j))), .long (lN (sea (wd (Pwt j)) (wn (Pwt j)))), .int (nI (wf (Pwt j))), .int (nI (wh (Pwt j))), .long (lN (wo (Pwt j)))]))) (hnxt : nxt < 13) (hunt : unt ≤ 12) (hwt : WOK wt) (hPwt : ∀ j, j < 13 → WOK (Pwt j)) (ff : Nat → Option Nat) (hff : g 52 = .inl (cy 3, 8, .inr (.inr (.inr (.inr ff))))) (hfc : fc ≤ 8) (hfj : ∀ j, j < 8 → ff j = some (ad (82 + 2 * j))) (Fl : Nat → Nat) (hFo : (∀ j : Nat, j < 8 → g (82 + 2 * j) = .inr (0, [.ref (ad (82 + 2 * j + 1)), .int (nI (Fl j))]))) (hFl : ∀ j, Fl j ≤ 200) (FB : Nat → Nat → Nat) (hFb : (∀ j : Nat, j < 8 → g (82 + 2 * j + 1) = .inl (cy 0, 200, .inl (fun x9 => nI ((FB j) x9))))) (hFB : ∀ j i, FB j i < 64) (x0 : Int32) : Met l yX9_order (WS yX9_order cX9_order 3 (some .int)) (rmF 6 140) (PP [.ref (ad 0), .int x0] D cy ad N g) (QI (fun r g1 => ∃ (wt2 : WT), ∃ (Pt2 : Nat → WT), ∃ (nt2 : Nat), ∃ (ut2 : Nat), ∃ (rt2 : Int32), (r = if isI x0 fc then orA (FB x0.toNatClampNeg) (Fl x0.toNatClampNeg) w 60 (w, Pwt, nxt, unt) 0 else -1) ∧ (FOK (wt2, Pt2, nt2, ut2)) ∧ g1 17 = .inr (1, [.ref (ad (17 + 1)), .ref (ad (17 + 2)), .int (nI (nt2)), .int (nI (ut2)), .int rt2]) ∧ g1 (17 + 1) = .inr (8, [.int (nI (wn wt2)), .long (lN (sea (wd wt2) (wn wt2))), .int (nI (wf wt2)), .int (nI (wh wt2)), .long (lN (wo wt2))]) ∧ g1 (17 + 2) = .inl (cy 6, 13, .inr (.inr (.inr (.inr fat)))) ∧ (∀ j : Nat, j < 13 → g1 (17 + 3 + j) = .inr (8, [.int (nI (wn (Pt2 j))), .long (lN (sea (wd (Pt2 j)) (wn (Pt2 j)))), .int (nI (wf (Pt2 j))), .int (nI (wh (Pt2 j))), .long (lN (wo (Pt2 j)))])) ∧ (∀ j, (j < 17 ∨ 33 ≤ j) → g1 j = g j)) D ad N) 0 0 (AA ad N) := by
  refine mentry (by decide) (Nat.le_of_ble_eq_true rfl) (fun p e s m below meth c ls S hr hlk hnm hP hK hl => ?_)
  have S : CallFix p m c cX9_order 3 s _ wsL_law RX9 := S
  have hx := S.1
  have hb := S.2.1
  have hl : lv_has ls 3 [(0, .ref (ad 0)), (1, .int x0)] := hl
  have hI : MD (AA ad N) ad N := MD.in hinj
  have hS : va_S (AA ad N) s.heap s.heap [] := va_S.rf
  have hfr : ∀ j : Nat, g j = g j := fun _ => rfl
  refine lv_aload_n hx hb dX9_order_0 rfl (lv_at hl 0 rfl) ?_
  refine lv_iload_n hx hb dX9_order_1 rfl (lv_at hl 1 rfl) ?_
  refine kVi (As := [.int x0]) (rest := []) S hK hP (c_X9_isFigure l D cy ad N g (by omega) qc fc lf lt vc hX ff hff hfc x0) cv_X9_197 (by omega) hX ⟨_, _, rfl⟩ ⟨rfl, rfl⟩ rfl hl.1 rfl (Nat.le_of_ble_eq_true rfl) ⟨Nat.zero_le _, Nat.zero_le _⟩ dX9_order_2 (fun r_2 q_2 => ?_)
  subst q_2
  refine lv_if_ne (tgt := 10) hx hb dX9_order_5 (by decide) (fun c_5 => ?_) (fun c_5 => ?_)
  · skip
    have c_5 := bz_ne.mp c_5
    have hJ := c_5
    obtain ⟨i, hib, ei⟩ := isI_nat (by omega) c_5
    have hl : lv_has ls 3 [(0, .ref (ad 0)), (1, .int (nI (i)))] := by rw [ei] at hl; exact hl
    have hib9 : i < 2 ^ 31 := by omega
    have eix : x0.toNatClampNeg = i := by rw [ei, nI_clamp hib9]
    refine lv_aload_n hx hb dX9_order_10 rfl (lv_at hl 0 rfl) ?_
    refine mg S hK hP (by omega) hX fd_X9_16 rfl dX9_order_11 ?_
    refine mg S hK hP (by omega) hgt fd_X9_79 rfl dX9_order_14 ?_
    refine lv_aload_n hx hb dX9_order_17 rfl (lv_at hl 0 rfl) ?_
    refine mg S hK hP (by omega) hX fd_X9_10 rfl dX9_order_18 ?_
    refine mg S hK hP (by omega) hg fd_X9_79 rfl dX9_order_21 ?_
    refine kMv (As := [.ref (ad (1 + 1))]) (rest := []) S hK hP hS (fun _ h => h) (c_X8_becomeW l D cy ad N g hinj (17 + 1) (by omega) wt hgnt (1 + 1) (by omega) w hgn (by omega)) cv_X9_160 (by omega) hgnt ⟨_, _, rfl⟩ ⟨rfl, rfl⟩ rfl hl.1 rfl (Nat.le_of_ble_eq_true rfl) ⟨Nat.zero_le _, Nat.zero_le _⟩ dX9_order_24 (fun g_1 H locs q_1 hP hS => ?_)
    obtain ⟨h_17___1__1, f_1⟩ := q_1
    have h0_1 : g_1 0 = .inr (9, [.ref (ad 1), .ref (ad 17), .ref (ad 33), .ref (ad 34), .int (nI (qc)), .ref (ad 35), .ref (ad 45), .ref (ad 47), .ref (ad 52), .int (nI (fc)), .int lf, .int lt, .ref (ad 53), .int (nI (vc)), .ref (ad 54), .ref (ad 75)]) := (f_1 0 (by omega)).trans hX
    have h52_1 : g_1 52 = .inl (cy 3, 8, .inr (.inr (.inr (.inr ff)))) := (f_1 52 (by omega)).trans hff
    have h1_1 : g_1 1 = .inr (1, [.ref (ad (1 + 1)), .ref (ad (1 + 2)), .int (nI (nx0)), .int (nI (un)), .int rf]) := (f_1 1 (by omega)).trans hg
    have h1___1_1 : g_1 (1 + 1) = .inr (8, [.int (nI (wn w)), .long (lN (sea (wd w) (wn w))), .int (nI (wf w)), .int (nI (wh w)), .long (lN (wo w))]) := (f_1 (1 + 1) (by omega)).trans hgn
    have h1___2_1 : g_1 (1 + 2) = .inl (cy 6, 13, .inr (.inr (.inr (.inr fa)))) := (f_1 (1 + 2) (by omega)).trans hga
    have h17_1 : g_1 17 = .inr (1, [.ref (ad (17 + 1)), .ref (ad (17 + 2)), .int (nI (nxt)), .int (nI (unt)), .int rft]) := (f_1 17 (by omega)).trans hgt
    have h17___2_1 : g_1 (17 + 2) = .inl (cy 6, 13, .inr (.inr (.inr (.inr fat)))) := (f_1 (17 + 2) (by omega)).trans hgat
    have hfam_P_1 : (∀ j : Nat, j < 13 → g_1 (1 + 3 + j) = .inr (8, [.int (nI (wn (Pw j))), .long (lN (sea (wd (Pw j)) (wn (Pw j)))), .int (nI (wf (Pw j))), .int (nI (wh (Pw j))), .long (lN (wo (Pw j)))])) := fun j hj => (f_1 (1 + 3 + j) (by omega)).trans (hfam j hj)
    have hfam_PT_1 : (∀ j : Nat, j < 13 → g_1 (17 + 3 + j) = .inr (8, [.int (nI (wn (Pwt j))), .long (lN (sea (wd (Pwt j)) (wn (Pwt j)))), .int (nI (wf (Pwt j))), .int (nI (wh (Pwt j))), .long (lN (wo (Pwt j)))])) := fun j hj => (f_1 (17 + 3 + j) (by omega)).trans (hfamt j hj)
    have hfam_FO_1 : (∀ j : Nat, j < 8 → g_1 (82 + 2 * j) = .inr (0, [.ref (ad (82 + 2 * j + 1)), .int (nI (Fl j))])) := fun j hj => (f_1 (82 + 2 * j) (by omega)).trans (hFo j hj)
    have hfam_FB_1 : (∀ j : Nat, j < 8 → g_1 (82 + 2 * j + 1) = .inl (cy 0, 200, .inl (fun x9 => nI ((FB j) x9)))) := fun j hj => (f_1 (82 + 2 * j + 1) (by omega)).trans (hFb j hj)
    have hfr_1 : ∀ j : Nat, j ≠ (17 + 1) → g_1 j = g j := fun j n0 => (f_1 j n0).trans (hfr j )
    refine lv_iconst (v := nI (1)) hx hb dX9_order_27 (by decide) ?_
    refine tpi (rfl) ?_
    refine lv_istore_n (lv' := [(2, .int (nI (0 + 1))), (0, .ref (ad 0)), (1, .int (nI (i)))]) hx hb dX9_order_28 rfl hl (by decide) rfl (fun ls hl => ?_)
    have L29 : ∀ (fu : Nat) (c9 : Nat) (w3 : WT) (P3 : Nat → WT) (n3 u3 : Nat) (r3 : Int32), (c9 ≤ 60) → (orA (FB i) (Fl i) w 60 (w, Pwt, nxt, unt) 0 = orA (FB i) (Fl i) w (60 - c9) (w3, P3, n3, u3) c9) → (FOK (w3, P3, n3, u3)) → (60 - c9) < fu → ∀ (g_2 : Nat → va_E) (H : Heap) (locs : List Loc), g_2 17 = .inr (1, [.ref (ad (17 + 1)), .ref (ad (17 + 2)), .int (nI (n3)), .int (nI (u3)), .int r3]) → g_2 (17 + 1) = .inr (8, [.int (nI (wn w3)), .long (lN (sea (wd w3) (wn w3))), .int (nI (wf w3)), .int (nI (wh w3)), .long (lN (wo w3))]) → g_2 (17 + 2) = .inl (cy 6, 13, .inr (.inr (.inr (.inr fat)))) → (∀ j : Nat, j < 13 → g_2 (17 + 3 + j) = .inr (8, [.int (nI (wn (P3 j))), .long (lN (sea (wd (P3 j)) (wn (P3 j)))), .int (nI (wf (P3 j))), .int (nI (wh (P3 j))), .long (lN (wo (P3 j)))])) → (∀ j : Nat, (j < 17 ∨ 33 ≤ j) → g_2 j = g j) → MM D ad N g_2 H → va_S (AA ad N) s.heap H locs → ∀ (ls : Array Slot), lv_has ls 3 [(2, .int (nI (c9 + 1))), (0, .ref (ad 0)), (1, .int (nI (i)))] → W p l e (rmF 6 140) s m [.ref (ad 0), .int x0].toArray below meth c H locs 0 0 (MQ below (QI (fun r g1 => ∃ (wt2 : WT), ∃ (Pt2 : Nat → WT), ∃ (nt2 : Nat), ∃ (ut2 : Nat), ∃ (rt2 : Int32), (r = if isI x0 fc then orA (FB x0.toNatClampNeg) (Fl x0.toNatClampNeg) w 60 (w, Pwt, nxt, unt) 0 else -1) ∧ (FOK (wt2, Pt2, nt2, ut2)) ∧ g1 17 = .inr (1, [.ref (ad (17 + 1)), .ref (ad (17 + 2)), .int (nI (nt2)), .int (nI (ut2)), .int rt2]) ∧ g1 (17 + 1) = .inr (8, [.int (nI (wn wt2)), .long (lN (sea (wd wt2) (wn wt2))), .int (nI (wf wt2)), .int (nI (wh wt2)), .long (lN (wo wt2))]) ∧ g1 (17 + 2) = .inl (cy 6, 13, .inr (.inr (.inr (.inr fat)))) ∧ (∀ j : Nat, j < 13 → g1 (17 + 3 + j) = .inr (8, [.int (nI (wn (Pt2 j))), .long (lN (sea (wd (Pt2 j)) (wn (Pt2 j)))), .int (nI (wf (Pt2 j))), .int (nI (wh (Pt2 j))), .long (lN (wo (Pt2 j)))])) ∧ (∀ j, (j < 17 ∨ 33 ≤ j) → g1 j = g j)) D ad N) [.ref (ad 0), .int x0].toArray s 0 0 (AA ad N)) (F0 m 29 ls []) := by
      intro fu
      induction fu with
      | zero => intro c9 w3 P3 n3 u3 r3 hc9 hor hfk hms g_2 H locs h17_2 h17___1_2 h17___2_2 hfam_PT_2 hfr_2 hP hS ls hl; exact absurd hms (Nat.not_lt_zero _)
      | succ fu ih29 =>
        intro c9 w3 P3 n3 u3 r3 hc9 hor hfk hms g_2 H locs h17_2 h17___1_2 h17___2_2 hfam_PT_2 hfr_2 hP hS ls hl
        have h0_2 : g_2 0 = .inr (9, [.ref (ad 1), .ref (ad 17), .ref (ad 33), .ref (ad 34), .int (nI (qc)), .ref (ad 35), .ref (ad 45), .ref (ad 47), .ref (ad 52), .int (nI (fc)), .int lf, .int lt, .ref (ad 53), .int (nI (vc)), .ref (ad 54), .ref (ad 75)]) := (hfr_2 0 (by omega)).trans hX
        have h52_2 : g_2 52 = .inl (cy 3, 8, .inr (.inr (.inr (.inr ff)))) := (hfr_2 52 (by omega)).trans hff
        have h1_2 : g_2 1 = .inr (1, [.ref (ad (1 + 1)), .ref (ad (1 + 2)), .int (nI (nx0)), .int (nI (un)), .int rf]) := (hfr_2 1 (by omega)).trans hg
        have h1___1_2 : g_2 (1 + 1) = .inr (8, [.int (nI (wn w)), .long (lN (sea (wd w) (wn w))), .int (nI (wf w)), .int (nI (wh w)), .long (lN (wo w))]) := (hfr_2 (1 + 1) (by omega)).trans hgn
        have h1___2_2 : g_2 (1 + 2) = .inl (cy 6, 13, .inr (.inr (.inr (.inr fa)))) := (hfr_2 (1 + 2) (by omega)).trans hga
        have hfam_P_2 : (∀ j : Nat, j < 13 → g_2 (1 + 3 + j) = .inr (8, [.int (nI (wn (Pw j))), .long (lN (sea (wd (Pw j)) (wn (Pw j)))), .int (nI (wf (Pw j))), .int (nI (wh (Pw j))), .long (lN (wo (Pw j)))])) := fun j hj => (hfr_2 _ (by omega)).trans (hfam j hj)
        have hfam_FO_2 : (∀ j : Nat, j < 8 → g_2 (82 + 2 * j) = .inr (0, [.ref (ad (82 + 2 * j + 1)), .int (nI (Fl j))])) := fun j hj => (hfr_2 _ (by omega)).trans (hFo j hj)
        have hfam_FB_2 : (∀ j : Nat, j < 8 → g_2 (82 + 2 * j + 1) = .inl (cy 0, 200, .inl (fun x9 => nI ((FB j) x9)))) := fun j hj => (hfr_2 _ (by omega)).trans (hFb j hj)
        have hF1 := rn_fok (B := FB i) (len := Fl i) (b0 := 0) hfk (Fl i)
        refine lv_iload_n hx hb dX9_order_29 rfl (lv_at hl 0 rfl) ?_
        refine lv_bipush (v := nI (60)) hx hb dX9_order_30 (by decide) ?_
        refine lv_icmp_gt (tgt := 91) hx hb dX9_order_32 (by decide) (fun c_32 => ?_) (fun c_32 => ?_)
        · skip
          have c_32 := (nI_ltI (by omega) (by omega)).mp c_32
          refine lv_bipush (v := (-4)) hx hb dX9_order_91 (by decide) ?_
          exact rMi S hr hlk hP hS ⟨w3, P3, n3, u3, r3, (by rw [if_pos hJ, eix, hor, orA_0 (by omega)]), hfk, h17_2, h17___1_2, h17___2_2, hfam_PT_2, hfr_2⟩ dX9_order_93
        · skip
          have c_32 := (not_congr (nI_ltI (by omega) (by omega))).mp c_32
          refine lv_aload_n hx hb dX9_order_35 rfl (lv_at hl 1 rfl) ?_
          refine mg S hK hP (by omega) h0_2 fd_X9_16 rfl dX9_order_36 ?_
          refine lv_aload_n hx hb dX9_order_39 rfl (lv_at hl 1 rfl) ?_
          refine mg S hK hP (by omega) h0_2 fd_X9_53 rfl dX9_order_40 ?_
          refine lv_iload_n hx hb dX9_order_43 rfl (lv_at hl 2 rfl) ?_
          have hf9_3 : i < 8 := by omega
          have hfc_4 : g_2 (82 + 2 * i + 1) = .inl (cy 0, 200, .inl (fun x9 => nI ((FB i) x9))) := hfam_FB_2 i hf9_3
          have hfc_5 : g_2 (82 + 2 * i) = .inr (0, [.ref (ad (82 + 2 * i + 1)), .int (nI (Fl i))]) := hfam_FO_2 i hf9_3
          refine mial7 S hK hP (by omega) h52_2 rfl (vp_in_nI (by omega) (by omega)) (a := ad (82 + 2 * i)) ((congrArg ff (nI_clamp (by omega))).trans (hfj _ hf9_3)) dX9_order_44 ?_
          refine lv_iconst (v := nI (0)) hx hb dX9_order_45 (by decide) ?_
          refine kMi (As := [.ref (ad (82 + 2 * i)), .int (nI (0))]) (rest := []) S hK hP hS (fun _ h => h) (c_X1_run l D cy ad N g_2 hinj 17 (by omega) n3 u3 r3 h17_2 w3 h17___1_2 fat h17___2_2 hfat P3 hfam_PT_2 hfk.2.2.1 hfk.2.2.2 hfk.1 hfk.2.1 (82 + 2 * i) (by omega) (82 + 2 * i + 1) (by omega) (Fl i) (FB i) hfc_5 hfc_4 (by omega) (hFl i) (hFB i) (by omega) 0 (by omega)) cv_X9_221 (by omega) h17_2 ⟨_, _, rfl⟩ ⟨rfl, rfl⟩ rfl hl.1 rfl (Nat.le_of_ble_eq_true rfl) ⟨Nat.zero_le _, Nat.zero_le _⟩ dX9_order_46 (fun r_46 g_6 H locs q_6 hP hS => ?_)
          obtain ⟨q_46, h17_6, h17___1_6, h17___2_6, hfam_PT_6, f_6⟩ := q_6
          subst q_46
          have h0_6 : g_6 0 = .inr (9, [.ref (ad 1), .ref (ad 17), .ref (ad 33), .ref (ad 34), .int (nI (qc)), .ref (ad 35), .ref (ad 45), .ref (ad 47), .ref (ad 52), .int (nI (fc)), .int lf, .int lt, .ref (ad 53), .int (nI (vc)), .ref (ad 54), .ref (ad 75)]) := (f_6 0 (by omega)).trans h0_2
          have h52_6 : g_6 52 = .inl (cy 3, 8, .inr (.inr (.inr (.inr ff)))) := (f_6 52 (by omega)).trans h52_2
          have h1_6 : g_6 1 = .inr (1, [.ref (ad (1 + 1)), .ref (ad (1 + 2)), .int (nI (nx0)), .int (nI (un)), .int rf]) := (f_6 1 (by omega)).trans h1_2
          have h1___1_6 : g_6 (1 + 1) = .inr (8, [.int (nI (wn w)), .long (lN (sea (wd w) (wn w))), .int (nI (wf w)), .int (nI (wh w)), .long (lN (wo w))]) := (f_6 (1 + 1) (by omega)).trans h1___1_2
          have h1___2_6 : g_6 (1 + 2) = .inl (cy 6, 13, .inr (.inr (.inr (.inr fa)))) := (f_6 (1 + 2) (by omega)).trans h1___2_2
          have h82___2___i___1_6 : g_6 (82 + 2 * i + 1) = .inl (cy 0, 200, .inl (fun x9 => nI ((FB i) x9))) := (f_6 (82 + 2 * i + 1) (by omega)).trans hfc_4
          have h82___2___i_6 : g_6 (82 + 2 * i) = .inr (0, [.ref (ad (82 + 2 * i + 1)), .int (nI (Fl i))]) := (f_6 (82 + 2 * i) (by omega)).trans hfc_5
          have hfam_P_6 : (∀ j : Nat, j < 13 → g_6 (1 + 3 + j) = .inr (8, [.int (nI (wn (Pw j))), .long (lN (sea (wd (Pw j)) (wn (Pw j)))), .int (nI (wf (Pw j))), .int (nI (wh (Pw j))), .long (lN (wo (Pw j)))])) := fun j hj => (f_6 (1 + 3 + j) (by omega)).trans (hfam_P_2 j hj)
          have hfam_FO_6 : (∀ j : Nat, j < 8 → g_6 (82 + 2 * j) = .inr (0, [.ref (ad (82 + 2 * j + 1)), .int (nI (Fl j))])) := fun j hj => (f_6 (82 + 2 * j) (by omega)).trans (hfam_FO_2 j hj)
          have hfam_FB_6 : (∀ j : Nat, j < 8 → g_6 (82 + 2 * j + 1) = .inl (cy 0, 200, .inl (fun x9 => nI ((FB j) x9)))) := fun j hj => (f_6 (82 + 2 * j + 1) (by omega)).trans (hfam_FB_2 j hj)
          have hfr_6 : ∀ j : Nat, (j < 17 ∨ 33 ≤ j) → (j < 17 ∨ 17 + 16 ≤ j) → g_6 j = g j := fun j n0 n1 => (f_6 j n1).trans (hfr_2 j n0)
          refine lv_pop hx hb dX9_order_49 rfl ?_
          refine lv_aload_n hx hb dX9_order_50 rfl (lv_at hl 1 rfl) ?_
          refine mg S hK hP (by omega) h0_6 fd_X9_16 rfl dX9_order_51 ?_
          refine mg S hK hP (by omega) h17_6 fd_X9_224 rfl dX9_order_54 ?_
          refine lv_if_eq (tgt := 63) hx hb dX9_order_57 (by decide) (fun c_57 => ?_) (fun c_57 => ?_)
          · skip
            refine lv_aload_n hx hb dX9_order_63 rfl (lv_at hl 1 rfl) ?_
            refine mg S hK hP (by omega) h0_6 fd_X9_16 rfl dX9_order_64 ?_
            refine mg S hK hP (by omega) h17_6 fd_X9_79 rfl dX9_order_67 ?_
            refine lv_aload_n hx hb dX9_order_70 rfl (lv_at hl 1 rfl) ?_
            refine mg S hK hP (by omega) h0_6 fd_X9_10 rfl dX9_order_71 ?_
            refine mg S hK hP (by omega) h1_6 fd_X9_79 rfl dX9_order_74 ?_
            refine kVi (As := [.ref (ad (1 + 1))]) (rest := []) S hK hP (c_X8_isAs l D cy ad N g_6 (17 + 1) (by omega) (wn ((rn (FB i) (Fl i) 0 (w3, P3, n3, u3) (Fl i)).2.2.1)) (wd ((rn (FB i) (Fl i) 0 (w3, P3, n3, u3) (Fl i)).2.2.1)) (wf ((rn (FB i) (Fl i) 0 (w3, P3, n3, u3) (Fl i)).2.2.1)) (wh ((rn (FB i) (Fl i) 0 (w3, P3, n3, u3) (Fl i)).2.2.1)) (wo ((rn (FB i) (Fl i) 0 (w3, P3, n3, u3) (Fl i)).2.2.1)) h17___1_6 (1 + 1) (by omega) (wn w) (wd w) (wf w) (wh w) (wo w) h1___1_6 hF1.1.1.1 hF1.1.1.2 hF1.1.2.1.1 hF1.1.2.2.2.2.1 (lt256 hF1.1.2.2.1 hF1.1.1.2) (lt256 hw.2.2.1 hw.1.2) (lt256 hF1.1.2.2.2.1 hF1.1.1.2) (lt256 hw.2.2.2.1 hw.1.2) hw.2.2.2.2.1 hw.1.1 hw.1.2 hw.2.1.1) cv_X9_227 (by omega) h17___1_6 ⟨_, _, rfl⟩ ⟨rfl, rfl⟩ rfl hl.1 rfl (Nat.le_of_ble_eq_true rfl) ⟨Nat.zero_le _, Nat.zero_le _⟩ dX9_order_77 (fun r_77 q_77 => ?_)
            subst q_77
            refine lv_if_eq (tgt := 85) hx hb dX9_order_80 (by decide) (fun c_80 => ?_) (fun c_80 => ?_)
            · skip
              have c_80 := bz_eq.mp c_80
              refine lv_iinc (v := nI ((c9 + 1) + 1)) (lv' := [(2, .int (nI ((c9 + 1) + 1))), (0, .ref (ad 0)), (1, .int (nI (i)))]) hx hb dX9_order_85 hl (k := 0) rfl (by exact nI_add (c9 + 1) 1) (by decide) rfl (fun ls hl => ?_)
              refine lv_goto (tgt := 29) hx hb dX9_order_88 (by decide) ?_
              exact ih29 (c9 + 1) ((rn (FB i) (Fl i) 0 (w3, P3, n3, u3) (Fl i)).2.2.1) ((rn (FB i) (Fl i) 0 (w3, P3, n3, u3) (Fl i)).2.2.2.1) ((rn (FB i) (Fl i) 0 (w3, P3, n3, u3) (Fl i)).2.2.2.2.1) ((rn (FB i) (Fl i) 0 (w3, P3, n3, u3) (Fl i)).2.2.2.2.2) ((rn (FB i) (Fl i) 0 (w3, P3, n3, u3) (Fl i)).2.1) (by omega) (hor.trans (orA_n (by omega) c_57 c_80)) hF1 (by omega) g_6 _ _ h17_6 h17___1_6 h17___2_6 hfam_PT_6 (fun j n0 => hfr_6 j (by omega) (by omega)) hP hS _ (lv_sub hl [0, 1, 2] rfl)
            · skip
              have c_80 := bz_ne.mp c_80
              refine lv_iload_n hx hb dX9_order_83 rfl (lv_at hl 0 rfl) ?_
              exact rMi S hr hlk hP hS ⟨(rn (FB i) (Fl i) 0 (w3, P3, n3, u3) (Fl i)).2.2.1, (rn (FB i) (Fl i) 0 (w3, P3, n3, u3) (Fl i)).2.2.2.1, (rn (FB i) (Fl i) 0 (w3, P3, n3, u3) (Fl i)).2.2.2.2.1, (rn (FB i) (Fl i) 0 (w3, P3, n3, u3) (Fl i)).2.2.2.2.2, (rn (FB i) (Fl i) 0 (w3, P3, n3, u3) (Fl i)).2.1, (by rw [if_pos hJ, eix, hor, orA_y (by omega) c_57 c_80]), hF1, h17_6, h17___1_6, h17___2_6, hfam_PT_6, (fun j n0 => hfr_6 j (by omega) (by omega))⟩ dX9_order_84
          · skip
            refine lv_bipush (v := (-2)) hx hb dX9_order_60 (by decide) ?_
            exact rMi S hr hlk hP hS ⟨(rn (FB i) (Fl i) 0 (w3, P3, n3, u3) (Fl i)).2.2.1, (rn (FB i) (Fl i) 0 (w3, P3, n3, u3) (Fl i)).2.2.2.1, (rn (FB i) (Fl i) 0 (w3, P3, n3, u3) (Fl i)).2.2.2.2.1, (rn (FB i) (Fl i) 0 (w3, P3, n3, u3) (Fl i)).2.2.2.2.2, (rn (FB i) (Fl i) 0 (w3, P3, n3, u3) (Fl i)).2.1, (by rw [if_pos hJ, eix, hor, orA_r (by omega) c_57]), hF1, h17_6, h17___1_6, h17___2_6, hfam_PT_6, (fun j n0 => hfr_6 j (by omega) (by omega))⟩ dX9_order_62
    exact L29 ((60 - 0) + 1) 0 w Pwt nxt unt rft (by omega) rfl ⟨hw, hPwt, hnxt, hunt⟩ (Nat.lt_succ_self _) g_1 _ _ h17_1 h_17___1__1 h17___2_1 hfam_PT_1 (fun j n0 => hfr_1 j (by omega)) hP hS _ (lv_sub hl [0, 1, 2] rfl)
  · skip
    have c_5 := bz_eq.mp c_5
    have hJ : ¬ isI x0 fc := c_5
    refine lv_iconst (v := (-1)) hx hb dX9_order_8 (by decide) ?_
    exact rMi S hr hlk hP hS ⟨wt, Pwt, nxt, unt, rft, (if_neg hJ).symm, ⟨hwt, hPwt, hnxt, hunt⟩, hgt, hgnt, hgat, hfamt, (fun j n0 => hfr j )⟩ dX9_order_9

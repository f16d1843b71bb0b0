set_option maxHeartbeats 4000000 in
set_option maxRecDepth 100000 in
theorem c_X6_tell (l : Launch) (D : va_G) (cy : Nat → ClassId) (ad : Nat → Nat) (N : Nat) (g : Nat → va_E) (hinj : ∀ i j : Nat, i < N → j < N → ad i = ad j → i = j) (sq sv : Nat) (hN : 114 ≤ N) (R9 : TS) (ps : PS) (ft : Nat) (fp : Nat) (hg : g 47 = .inr (6, [.ref (ad (47 + 1)), .ref (ad (47 + 3)), .ref (ad (47 + 4)), .int (nI (pOp ps)), .int (nI (pWt ps)), .int (nI (pLt ps)), .int (nI (pRd ps)), .int (nI (pEm ps)), .int (nI (pOv ps)), .int (nI (ft)), .int (nI (fp))])) (hgd : g (47 + 1) = .inr (0, [.ref (ad (47 + 2)), .int (nI (pLen ps))])) (hgb : g (47 + 2) = .inl (cy 0, 200, .inl (fun x9 => nI ((pB ps) x9)))) (hgs : g (47 + 3) = .inl (cy 1, 4, .inl (fun x9 => nI ((pSt ps) x9)))) (hgt : g (47 + 4) = .inl (cy 1, 4, .inl (fun x9 => nI ((pTm ps) x9)))) (hps : POK ps) (tlen : Nat) (trd : Nat) (kd0 : Nat) (tpl : Nat) (tvl : Int32) (T : Nat → Nat) (hgk : g 45 = .inr (5, [.ref (ad 46), .int (nI (tlen)), .int (nI (trd)), .int (nI (kd0)), .int (nI (tpl)), .int tvl])) (hgkt : g 46 = .inl (cy 0, 160, .inl (fun x9 => sb_b (T x9)))) (hlen : tlen ≤ 160) (hT : ∀ i, T i < 256) (ff : Nat → Option Nat) (hff : g 52 = .inl (cy 3, 8, .inr (.inr (.inr (.inr ff))))) (hfj : ∀ j, j < 8 → ff j = some (ad (82 + 2 * j))) (Fl : Nat → Nat) (FB : Nat → Nat → Nat) (hFo : (∀ j : Nat, j < 8 → g (82 + 2 * j) = .inr (0, [.ref (ad (82 + 2 * j + 1)), .int (nI (Fl j))]))) (hFb : (∀ j : Nat, j < 8 → g (82 + 2 * j + 1) = .inl (cy 0, 200, .inl (fun x9 => nI ((FB j) x9))))) (hFl : ∀ j, Fl j ≤ 200) (hFB : ∀ j i, FB j i < 64) (kn : Nat) (hkn : kn ≤ 8) (hR9 : tkR Fl FB kn T tlen (beP ps) 161 = R9) : Met l yX6_tell (WS yX6_tell cX6_tell 5 none) (rmF 5 112) (PPX [.ref (ad 47), .ref (ad 45), .ref (ad 52), .int (nI (kn))] D cy ad N g sq sv) (QV (fun g1 => ∃ (trd2 : Nat), ∃ (kd2 : Nat), ∃ (tpl2 : Nat), ∃ (tvl2 : Int32), (POK R9.2.1 ∧ tkF R9 ≤ 5) ∧ g1 47 = .inr (6, [.ref (ad (47 + 1)), .ref (ad (47 + 3)), .ref (ad (47 + 4)), .int (nI (pOp R9.2.1)), .int (nI (pWt R9.2.1)), .int (nI (pLt R9.2.1)), .int (nI (pRd R9.2.1)), .int (nI (pEm R9.2.1)), .int (nI (pOv R9.2.1)), .int (nI (tkF R9)), .int (nI (tkP R9))]) ∧ g1 (47 + 1) = .inr (0, [.ref (ad (47 + 2)), .int (nI (pLen R9.2.1))]) ∧ g1 (47 + 2) = .inl (cy 0, 200, .inl (fun x9 => nI ((pB R9.2.1) x9))) ∧ g1 (47 + 3) = .inl (cy 1, 4, .inl (fun x9 => nI ((pSt R9.2.1) x9))) ∧ g1 (47 + 4) = .inl (cy 1, 4, .inl (fun x9 => nI ((pTm R9.2.1) x9))) ∧ g1 45 = .inr (5, [.ref (ad 46), .int (nI (tlen)), .int (nI (trd2)), .int (nI (kd2)), .int (nI (tpl2)), .int tvl2]) ∧ (∀ j, (j < 45 ∨ 46 ≤ j) → (j < 47 ∨ 52 ≤ j) → g1 j = g j)) D ad N) 0 0 (AA ad N) := by
  refine xentry (by decide) (Nat.le_of_ble_eq_true rfl) (fun p e s m below meth c ls S hr hlk hnm hP hK hXF hl => ?_)
  have S : CallFix p m c cX6_tell 5 s _ wsL_law RX6 := S
  have hx := S.1
  have hb := S.2.1
  have hl : lv_has ls 5 [(0, .ref (ad 47)), (1, .ref (ad 45)), (2, .ref (ad 52)), (3, .int (nI (kn)))] := hl
  have hI : MD (AA ad N) ad N := MD.in hinj
  have hS : va_S (AA ad N) s.heap s.heap [] := va_S.rf
  have hfr : ∀ j : Nat, g j = g j := fun _ => rfl
  refine lv_aload_n hx hb dX6_tell_0 rfl (lv_at hl 0 rfl) ?_
  refine kMv (As := []) (rest := []) S hK hP hS (fun _ h => h) (c_X6_begin l D cy ad N g hinj 47 (by omega) ps ft fp hg hgd hgb hgs hgt hps) cv_X6_25 (by omega) hg ⟨_, _, rfl⟩ ⟨rfl, rfl⟩ rfl hl.1 rfl (Nat.le_of_ble_eq_true rfl) ⟨Nat.zero_le _, Nat.zero_le _⟩ dX6_tell_1 (fun g_1 H locs q_1 hP hS => ?_)
  obtain ⟨h47_1, h47___1_1, h47___2_1, h47___3_1, h47___4_1, f_1⟩ := q_1
  have h45_1 : g_1 45 = .inr (5, [.ref (ad 46), .int (nI (tlen)), .int (nI (trd)), .int (nI (kd0)), .int (nI (tpl)), .int tvl]) := (f_1 45 (by omega)).trans hgk
  have h46_1 : g_1 46 = .inl (cy 0, 160, .inl (fun x9 => sb_b (T x9))) := (f_1 46 (by omega)).trans hgkt
  have h52_1 : g_1 52 = .inl (cy 3, 8, .inr (.inr (.inr (.inr ff)))) := (f_1 52 (by omega)).trans hff
  have hfam_FO_1 : (∀ j : Nat, j < 8 → g_1 (82 + 2 * j) = .inr (0, [.ref (ad (82 + 2 * j + 1)), .int (nI (Fl j))])) := fun j hj => (f_1 (82 + 2 * j) (by omega)).trans (hFo j hj)
  have hfam_FBm_1 : (∀ j : Nat, j < 8 → g_1 (82 + 2 * j + 1) = .inl (cy 0, 200, .inl (fun x9 => nI ((FB j) x9)))) := fun j hj => (f_1 (82 + 2 * j + 1) (by omega)).trans (hFb j hj)
  have hfr_1 : ∀ j : Nat, (j < 47 ∨ 47 + 5 ≤ j) → g_1 j = g j := fun j n0 => (f_1 j n0).trans (hfr j )
  refine lv_aload_n hx hb dX6_tell_4 rfl (lv_at hl 1 rfl) ?_
  refine kMv (As := []) (rest := []) S hK hP hS (fun _ h => h) (c_X5_rewind l D cy ad N g_1 hinj 45 (by omega) 46 (by omega) tlen trd kd0 tpl tvl T h45_1 h46_1 (by omega) hlen hT) cv_X6_28 (by omega) h45_1 ⟨_, _, rfl⟩ ⟨rfl, rfl⟩ rfl hl.1 rfl (Nat.le_of_ble_eq_true rfl) ⟨Nat.zero_le _, Nat.zero_le _⟩ dX6_tell_5 (fun g_2 H locs q_2 hP hS => ?_)
  obtain ⟨h45_2, f_2⟩ := q_2
  have h47_2 : g_2 47 = .inr (6, [.ref (ad (47 + 1)), .ref (ad (47 + 3)), .ref (ad (47 + 4)), .int (nI (pOp ((0, pB ps, pSt ps, pTm ps, 0, 0, pLt ps, pRd ps, 1, 0)))), .int (nI (pWt ((0, pB ps, pSt ps, pTm ps, 0, 0, pLt ps, pRd ps, 1, 0)))), .int (nI (pLt ((0, pB ps, pSt ps, pTm ps, 0, 0, pLt ps, pRd ps, 1, 0)))), .int (nI (pRd ((0, pB ps, pSt ps, pTm ps, 0, 0, pLt ps, pRd ps, 1, 0)))), .int (nI (pEm ((0, pB ps, pSt ps, pTm ps, 0, 0, pLt ps, pRd ps, 1, 0)))), .int (nI (pOv ((0, pB ps, pSt ps, pTm ps, 0, 0, pLt ps, pRd ps, 1, 0)))), .int (nI (0)), .int (nI (0))]) := (f_2 47 (by omega)).trans h47_1
  have h47___1_2 : g_2 (47 + 1) = .inr (0, [.ref (ad (47 + 2)), .int (nI (pLen ((0, pB ps, pSt ps, pTm ps, 0, 0, pLt ps, pRd ps, 1, 0))))]) := (f_2 (47 + 1) (by omega)).trans h47___1_1
  have h47___2_2 : g_2 (47 + 2) = .inl (cy 0, 200, .inl (fun x9 => nI ((pB ((0, pB ps, pSt ps, pTm ps, 0, 0, pLt ps, pRd ps, 1, 0))) x9))) := (f_2 (47 + 2) (by omega)).trans h47___2_1
  have h47___3_2 : g_2 (47 + 3) = .inl (cy 1, 4, .inl (fun x9 => nI ((pSt ((0, pB ps, pSt ps, pTm ps, 0, 0, pLt ps, pRd ps, 1, 0))) x9))) := (f_2 (47 + 3) (by omega)).trans h47___3_1
  have h47___4_2 : g_2 (47 + 4) = .inl (cy 1, 4, .inl (fun x9 => nI ((pTm ((0, pB ps, pSt ps, pTm ps, 0, 0, pLt ps, pRd ps, 1, 0))) x9))) := (f_2 (47 + 4) (by omega)).trans h47___4_1
  have h46_2 : g_2 46 = .inl (cy 0, 160, .inl (fun x9 => sb_b (T x9))) := (f_2 46 (by omega)).trans h46_1
  have h52_2 : g_2 52 = .inl (cy 3, 8, .inr (.inr (.inr (.inr ff)))) := (f_2 52 (by omega)).trans h52_1
  have hfam_FO_2 : (∀ j : Nat, j < 8 → g_2 (82 + 2 * j) = .inr (0, [.ref (ad (82 + 2 * j + 1)), .int (nI (Fl j))])) := fun j hj => (f_2 (82 + 2 * j) (by omega)).trans (hfam_FO_1 j hj)
  have hfam_FBm_2 : (∀ j : Nat, j < 8 → g_2 (82 + 2 * j + 1) = .inl (cy 0, 200, .inl (fun x9 => nI ((FB j) x9)))) := fun j hj => (f_2 (82 + 2 * j + 1) (by omega)).trans (hfam_FBm_1 j hj)
  have hfr_2 : ∀ j : Nat, (j < 47 ∨ 47 + 5 ≤ j) → j ≠ 45 → g_2 j = g j := fun j n0 n1 => (f_2 j n1).trans (hfr_1 j n0)
  refine lv_iconst (v := nI (0)) hx hb dX6_tell_8 (by decide) ?_
  refine lv_istore (lv' := [(4, .int (nI (0))), (0, .ref (ad 47)), (1, .ref (ad 45)), (2, .ref (ad 52)), (3, .int (nI (kn)))]) hx hb dX6_tell_9 hl (by decide) rfl (fun ls hl => ?_)
  have L11 : ∀ (fu : Nat) (i9 q9 pl9 kd9 tp9 : Nat) (vl9 : Int32) (p9 : PS), (i9 ≤ 161) → (tkR Fl FB kn T tlen (beP ps) i9 = (q9, p9, 0, pl9, 0)) → (POK p9) → (q9 ≤ tlen) → (161 - i9) < fu → ∀ (g_3 : Nat → va_E) (H : Heap) (locs : List Loc), g_3 47 = .inr (6, [.ref (ad (47 + 1)), .ref (ad (47 + 3)), .ref (ad (47 + 4)), .int (nI (pOp p9)), .int (nI (pWt p9)), .int (nI (pLt p9)), .int (nI (pRd p9)), .int (nI (pEm p9)), .int (nI (pOv p9)), .int (nI (0)), .int (nI (pl9))]) → g_3 (47 + 1) = .inr (0, [.ref (ad (47 + 2)), .int (nI (pLen p9))]) → g_3 (47 + 2) = .inl (cy 0, 200, .inl (fun x9 => nI ((pB p9) x9))) → g_3 (47 + 3) = .inl (cy 1, 4, .inl (fun x9 => nI ((pSt p9) x9))) → g_3 (47 + 4) = .inl (cy 1, 4, .inl (fun x9 => nI ((pTm p9) x9))) → g_3 45 = .inr (5, [.ref (ad 46), .int (nI (tlen)), .int (nI (q9)), .int (nI (kd9)), .int (nI (tp9)), .int vl9]) → (∀ j : Nat, j ≠ 47 → j ≠ (47 + 1) → j ≠ (47 + 2) → j ≠ (47 + 3) → j ≠ (47 + 4) → j ≠ 45 → g_3 j = g j) → MM D ad N g_3 H → va_S (AA ad N) s.heap H locs → ∀ (ls : Array Slot), lv_has ls 5 [(4, .int (nI (i9))), (0, .ref (ad 47)), (1, .ref (ad 45)), (2, .ref (ad 52)), (3, .int (nI (kn)))] → W p l e (rmF 5 112) s m [.ref (ad 47), .ref (ad 45), .ref (ad 52), .int (nI (kn))].toArray below meth c H locs 0 0 (MQ below (QV (fun g1 => ∃ (trd2 : Nat), ∃ (kd2 : Nat), ∃ (tpl2 : Nat), ∃ (tvl2 : Int32), (POK R9.2.1 ∧ tkF R9 ≤ 5) ∧ g1 47 = .inr (6, [.ref (ad (47 + 1)), .ref (ad (47 + 3)), .ref (ad (47 + 4)), .int (nI (pOp R9.2.1)), .int (nI (pWt R9.2.1)), .int (nI (pLt R9.2.1)), .int (nI (pRd R9.2.1)), .int (nI (pEm R9.2.1)), .int (nI (pOv R9.2.1)), .int (nI (tkF R9)), .int (nI (tkP R9))]) ∧ g1 (47 + 1) = .inr (0, [.ref (ad (47 + 2)), .int (nI (pLen R9.2.1))]) ∧ g1 (47 + 2) = .inl (cy 0, 200, .inl (fun x9 => nI ((pB R9.2.1) x9))) ∧ g1 (47 + 3) = .inl (cy 1, 4, .inl (fun x9 => nI ((pSt R9.2.1) x9))) ∧ g1 (47 + 4) = .inl (cy 1, 4, .inl (fun x9 => nI ((pTm R9.2.1) x9))) ∧ g1 45 = .inr (5, [.ref (ad 46), .int (nI (tlen)), .int (nI (trd2)), .int (nI (kd2)), .int (nI (tpl2)), .int tvl2]) ∧ (∀ j, (j < 45 ∨ 46 ≤ j) → (j < 47 ∨ 52 ≤ j) → g1 j = g j)) D ad N) [.ref (ad 47), .ref (ad 45), .ref (ad 52), .int (nI (kn))].toArray s 0 0 (AA ad N)) (F0 m 11 ls []) := by
    intro fu
    induction fu with
    | zero => intro i9 q9 pl9 kd9 tp9 vl9 p9 hi9 hS9 hp9 hq9 hms g_3 H locs h47_3 h47___1_3 h47___2_3 h47___3_3 h47___4_3 h45_3 hfr_3 hP hS ls hl; exact absurd hms (Nat.not_lt_zero _)
    | succ fu ih11 =>
      intro i9 q9 pl9 kd9 tp9 vl9 p9 hi9 hS9 hp9 hq9 hms g_3 H locs h47_3 h47___1_3 h47___2_3 h47___3_3 h47___4_3 h45_3 hfr_3 hP hS ls hl
      have h46_3 : g_3 46 = .inl (cy 0, 160, .inl (fun x9 => sb_b (T x9))) := (hfr_3 46 (by omega) (by omega) (by omega) (by omega) (by omega) (by omega)).trans hgkt
      have h52_3 : g_3 52 = .inl (cy 3, 8, .inr (.inr (.inr (.inr ff)))) := (hfr_3 52 (by omega) (by omega) (by omega) (by omega) (by omega) (by omega)).trans hff
      have hfam_FO_3 : (∀ j : Nat, j < 8 → g_3 (82 + 2 * j) = .inr (0, [.ref (ad (82 + 2 * j + 1)), .int (nI (Fl j))])) := fun j hj => (hfr_3 _ (by omega) (by omega) (by omega) (by omega) (by omega) (by omega)).trans (hFo j hj)
      have hfam_FBm_3 : (∀ j : Nat, j < 8 → g_3 (82 + 2 * j + 1) = .inl (cy 0, 200, .inl (fun x9 => nI ((FB j) x9)))) := fun j hj => (hfr_3 _ (by omega) (by omega) (by omega) (by omega) (by omega) (by omega)).trans (hFb j hj)
      refine lv_iload hx hb dX6_tell_11 (lv_at hl 0 rfl) ?_
      refine lv_sipush (v := nI (160)) hx hb dX6_tell_13 (by decide) ?_
      have J66 : ∀ (rd8 kd8 tp8 : Nat) (vl8 : Int32), (POK R9.2.1) → (R9.2.2.1 ≤ 4) → ∀ (g_4 : Nat → va_E) (H : Heap) (locs : List Loc), g_4 47 = .inr (6, [.ref (ad (47 + 1)), .ref (ad (47 + 3)), .ref (ad (47 + 4)), .int (nI (pOp R9.2.1)), .int (nI (pWt R9.2.1)), .int (nI (pLt R9.2.1)), .int (nI (pRd R9.2.1)), .int (nI (pEm R9.2.1)), .int (nI (pOv R9.2.1)), .int (nI (R9.2.2.1)), .int (nI (R9.2.2.2.1))]) → g_4 (47 + 1) = .inr (0, [.ref (ad (47 + 2)), .int (nI (pLen R9.2.1))]) → g_4 (47 + 2) = .inl (cy 0, 200, .inl (fun x9 => nI ((pB R9.2.1) x9))) → g_4 (47 + 3) = .inl (cy 1, 4, .inl (fun x9 => nI ((pSt R9.2.1) x9))) → g_4 (47 + 4) = .inl (cy 1, 4, .inl (fun x9 => nI ((pTm R9.2.1) x9))) → g_4 45 = .inr (5, [.ref (ad 46), .int (nI (tlen)), .int (nI (rd8)), .int (nI (kd8)), .int (nI (tp8)), .int vl8]) → (∀ j : Nat, j ≠ 47 → j ≠ (47 + 1) → j ≠ (47 + 2) → j ≠ (47 + 3) → j ≠ (47 + 4) → j ≠ 45 → g_4 j = g j) → MM D ad N g_4 H → va_S (AA ad N) s.heap H locs → ∀ (ls : Array Slot), lv_has ls 5 [(0, .ref (ad 47)), (1, .ref (ad 45)), (2, .ref (ad 52)), (3, .int (nI (kn)))] → W p l e (rmF 5 112) s m [.ref (ad 47), .ref (ad 45), .ref (ad 52), .int (nI (kn))].toArray below meth c H locs 0 0 (MQ below (QV (fun g1 => ∃ (trd2 : Nat), ∃ (kd2 : Nat), ∃ (tpl2 : Nat), ∃ (tvl2 : Int32), (POK R9.2.1 ∧ tkF R9 ≤ 5) ∧ g1 47 = .inr (6, [.ref (ad (47 + 1)), .ref (ad (47 + 3)), .ref (ad (47 + 4)), .int (nI (pOp R9.2.1)), .int (nI (pWt R9.2.1)), .int (nI (pLt R9.2.1)), .int (nI (pRd R9.2.1)), .int (nI (pEm R9.2.1)), .int (nI (pOv R9.2.1)), .int (nI (tkF R9)), .int (nI (tkP R9))]) ∧ g1 (47 + 1) = .inr (0, [.ref (ad (47 + 2)), .int (nI (pLen R9.2.1))]) ∧ g1 (47 + 2) = .inl (cy 0, 200, .inl (fun x9 => nI ((pB R9.2.1) x9))) ∧ g1 (47 + 3) = .inl (cy 1, 4, .inl (fun x9 => nI ((pSt R9.2.1) x9))) ∧ g1 (47 + 4) = .inl (cy 1, 4, .inl (fun x9 => nI ((pTm R9.2.1) x9))) ∧ g1 45 = .inr (5, [.ref (ad 46), .int (nI (tlen)), .int (nI (trd2)), .int (nI (kd2)), .int (nI (tpl2)), .int tvl2]) ∧ (∀ j, (j < 45 ∨ 46 ≤ j) → (j < 47 ∨ 52 ≤ j) → g1 j = g j)) D ad N) [.ref (ad 47), .ref (ad 45), .ref (ad 52), .int (nI (kn))].toArray s 0 0 (AA ad N)) (F0 m 66 ls []) := by
        intro rd8 kd8 tp8 vl8 hRK hRf g_4 H locs h47_4 h47___1_4 h47___2_4 h47___3_4 h47___4_4 h45_4 hfr_4 hP hS ls hl
        have h46_4 : g_4 46 = .inl (cy 0, 160, .inl (fun x9 => sb_b (T x9))) := (hfr_4 46 (by omega) (by omega) (by omega) (by omega) (by omega) (by omega)).trans hgkt
        have h52_4 : g_4 52 = .inl (cy 3, 8, .inr (.inr (.inr (.inr ff)))) := (hfr_4 52 (by omega) (by omega) (by omega) (by omega) (by omega) (by omega)).trans hff
        have hfam_FO_4 : (∀ j : Nat, j < 8 → g_4 (82 + 2 * j) = .inr (0, [.ref (ad (82 + 2 * j + 1)), .int (nI (Fl j))])) := fun j hj => (hfr_4 _ (by omega) (by omega) (by omega) (by omega) (by omega) (by omega)).trans (hFo j hj)
        have hfam_FBm_4 : (∀ j : Nat, j < 8 → g_4 (82 + 2 * j + 1) = .inl (cy 0, 200, .inl (fun x9 => nI ((FB j) x9)))) := fun j hj => (hfr_4 _ (by omega) (by omega) (by omega) (by omega) (by omega) (by omega)).trans (hFb j hj)
        have hov9 := hRK.2.1.2.2.2.2.2
        refine lv_aload_n hx hb dX6_tell_66 rfl (lv_at hl 0 rfl) ?_
        refine mg S hK hP (by omega) h47_4 fd_X6_40 rfl dX6_tell_67 ?_
        refine lv_if_ne (tgt := 90) hx hb dX6_tell_70 (by decide) (fun c_70 => ?_) (fun c_70 => ?_)
        · skip
          have c_70 := (not_congr (z_eq (by omega))).mp c_70
          have hT9 := tkF_n (R := R9) (fun z => c_70 z.1)
          exact rMv S hr hlk hP hS ⟨_, _, _, _, ⟨hRK, by rw [hT9.1]; omega⟩, (by rw [hT9.1, hT9.2]; exact h47_4), h47___1_4, h47___2_4, h47___3_4, h47___4_4, h45_4, (fun j n0 n1 => hfr_4 j (by omega) (by omega) (by omega) (by omega) (by omega) (by omega))⟩ dX6_tell_90
        · skip
          have c_70 := (z_eq (by omega)).mp c_70
          refine lv_aload_n hx hb dX6_tell_73 rfl (lv_at hl 0 rfl) ?_
          refine mg S hK hP (by omega) h47_4 fd_X6_53 rfl dX6_tell_74 ?_
          refine lv_if_eq (tgt := 90) hx hb dX6_tell_77 (by decide) (fun c_77 => ?_) (fun c_77 => ?_)
          · skip
            have c_77 := (z_eq (by omega)).mp c_77
            have hT9 := tkF_n (R := R9) (fun z => z.2 c_77)
            exact rMv S hr hlk hP hS ⟨_, _, _, _, ⟨hRK, by rw [hT9.1]; omega⟩, (by rw [hT9.1, hT9.2]; exact h47_4), h47___1_4, h47___2_4, h47___3_4, h47___4_4, h45_4, (fun j n0 n1 => hfr_4 j (by omega) (by omega) (by omega) (by omega) (by omega) (by omega))⟩ dX6_tell_90
          · skip
            have c_77 := (not_congr (z_eq (by omega))).mp c_77
            refine lv_aload_n hx hb dX6_tell_80 rfl (lv_at hl 0 rfl) ?_
            refine lv_iconst (v := nI (5)) hx hb dX6_tell_81 (by decide) ?_
            refine mp S hK hP hI hS (by omega) h47_4 fd_X6_40 rfl rfl (Nat.le_of_ble_eq_true rfl) dX6_tell_82 (fun g_5 H locs eg_5 hP hS => ?_)
            have h47_5 : g_5 47 = .inr (6, [.ref (ad (47 + 1)), .ref (ad (47 + 3)), .ref (ad (47 + 4)), .int (nI (pOp R9.2.1)), .int (nI (pWt R9.2.1)), .int (nI (pLt R9.2.1)), .int (nI (pRd R9.2.1)), .int (nI (pEm R9.2.1)), .int (nI (pOv R9.2.1)), .int (nI (5)), .int (nI (R9.2.2.2.1))]) := by rw [eg_5, va_up_self]; exact rfl
            have h47___1_5 : g_5 (47 + 1) = .inr (0, [.ref (ad (47 + 2)), .int (nI (pLen R9.2.1))]) := ((congrFun eg_5 _).trans (va_up_ne _ _ (by omega))).trans h47___1_4
            have h47___2_5 : g_5 (47 + 2) = .inl (cy 0, 200, .inl (fun x9 => nI ((pB R9.2.1) x9))) := ((congrFun eg_5 _).trans (va_up_ne _ _ (by omega))).trans h47___2_4
            have h47___3_5 : g_5 (47 + 3) = .inl (cy 1, 4, .inl (fun x9 => nI ((pSt R9.2.1) x9))) := ((congrFun eg_5 _).trans (va_up_ne _ _ (by omega))).trans h47___3_4
            have h47___4_5 : g_5 (47 + 4) = .inl (cy 1, 4, .inl (fun x9 => nI ((pTm R9.2.1) x9))) := ((congrFun eg_5 _).trans (va_up_ne _ _ (by omega))).trans h47___4_4
            have h45_5 : g_5 45 = .inr (5, [.ref (ad 46), .int (nI (tlen)), .int (nI (rd8)), .int (nI (kd8)), .int (nI (tp8)), .int vl8]) := ((congrFun eg_5 _).trans (va_up_ne _ _ (by omega))).trans h45_4
            have h46_5 : g_5 46 = .inl (cy 0, 160, .inl (fun x9 => sb_b (T x9))) := ((congrFun eg_5 _).trans (va_up_ne _ _ (by omega))).trans h46_4
            have h52_5 : g_5 52 = .inl (cy 3, 8, .inr (.inr (.inr (.inr ff)))) := ((congrFun eg_5 _).trans (va_up_ne _ _ (by omega))).trans h52_4
            have hfam_FO_5 : (∀ j : Nat, j < 8 → g_5 (82 + 2 * j) = .inr (0, [.ref (ad (82 + 2 * j + 1)), .int (nI (Fl j))])) := fun j hj => ((congrFun eg_5 _).trans (va_up_ne _ _ (by omega))).trans (hfam_FO_4 j hj)
            have hfam_FBm_5 : (∀ j : Nat, j < 8 → g_5 (82 + 2 * j + 1) = .inl (cy 0, 200, .inl (fun x9 => nI ((FB j) x9)))) := fun j hj => ((congrFun eg_5 _).trans (va_up_ne _ _ (by omega))).trans (hfam_FBm_4 j hj)
            have hfr_5 : ∀ j : Nat, j ≠ 47 → j ≠ (47 + 1) → j ≠ (47 + 2) → j ≠ (47 + 3) → j ≠ (47 + 4) → j ≠ 45 → g_5 j = g j := fun j n0 n1 n2 n3 n4 n5 => ((congrFun eg_5 _).trans (va_up_ne _ _ n0)).trans (hfr_4 j n0 n1 n2 n3 n4 n5)
            refine lv_aload_n hx hb dX6_tell_85 rfl (lv_at hl 0 rfl) ?_
            refine lv_iconst (v := nI (0)) hx hb dX6_tell_86 (by decide) ?_
            refine mp S hK hP hI hS (by omega) h47_5 fd_X6_47 rfl rfl (Nat.le_of_ble_eq_true rfl) dX6_tell_87 (fun g_6 H locs eg_6 hP hS => ?_)
            have h47_6 : g_6 47 = .inr (6, [.ref (ad (47 + 1)), .ref (ad (47 + 3)), .ref (ad (47 + 4)), .int (nI (pOp R9.2.1)), .int (nI (pWt R9.2.1)), .int (nI (pLt R9.2.1)), .int (nI (pRd R9.2.1)), .int (nI (pEm R9.2.1)), .int (nI (pOv R9.2.1)), .int (nI (5)), .int (nI (0))]) := by rw [eg_6, va_up_self]; exact rfl
            have h47___1_6 : g_6 (47 + 1) = .inr (0, [.ref (ad (47 + 2)), .int (nI (pLen R9.2.1))]) := ((congrFun eg_6 _).trans (va_up_ne _ _ (by omega))).trans h47___1_5
            have h47___2_6 : g_6 (47 + 2) = .inl (cy 0, 200, .inl (fun x9 => nI ((pB R9.2.1) x9))) := ((congrFun eg_6 _).trans (va_up_ne _ _ (by omega))).trans h47___2_5
            have h47___3_6 : g_6 (47 + 3) = .inl (cy 1, 4, .inl (fun x9 => nI ((pSt R9.2.1) x9))) := ((congrFun eg_6 _).trans (va_up_ne _ _ (by omega))).trans h47___3_5
            have h47___4_6 : g_6 (47 + 4) = .inl (cy 1, 4, .inl (fun x9 => nI ((pTm R9.2.1) x9))) := ((congrFun eg_6 _).trans (va_up_ne _ _ (by omega))).trans h47___4_5
            have h45_6 : g_6 45 = .inr (5, [.ref (ad 46), .int (nI (tlen)), .int (nI (rd8)), .int (nI (kd8)), .int (nI (tp8)), .int vl8]) := ((congrFun eg_6 _).trans (va_up_ne _ _ (by omega))).trans h45_5
            have h46_6 : g_6 46 = .inl (cy 0, 160, .inl (fun x9 => sb_b (T x9))) := ((congrFun eg_6 _).trans (va_up_ne _ _ (by omega))).trans h46_5
            have h52_6 : g_6 52 = .inl (cy 3, 8, .inr (.inr (.inr (.inr ff)))) := ((congrFun eg_6 _).trans (va_up_ne _ _ (by omega))).trans h52_5
            have hfam_FO_6 : (∀ j : Nat, j < 8 → g_6 (82 + 2 * j) = .inr (0, [.ref (ad (82 + 2 * j + 1)), .int (nI (Fl j))])) := fun j hj => ((congrFun eg_6 _).trans (va_up_ne _ _ (by omega))).trans (hfam_FO_5 j hj)
            have hfam_FBm_6 : (∀ j : Nat, j < 8 → g_6 (82 + 2 * j + 1) = .inl (cy 0, 200, .inl (fun x9 => nI ((FB j) x9)))) := fun j hj => ((congrFun eg_6 _).trans (va_up_ne _ _ (by omega))).trans (hfam_FBm_5 j hj)
            have hfr_6 : ∀ j : Nat, j ≠ 47 → j ≠ (47 + 1) → j ≠ (47 + 2) → j ≠ (47 + 3) → j ≠ (47 + 4) → j ≠ 45 → g_6 j = g j := fun j n0 n1 n2 n3 n4 n5 => ((congrFun eg_6 _).trans (va_up_ne _ _ n0)).trans (hfr_5 j n0 n1 n2 n3 n4 n5)
            have hT9 := tkF_y (R := R9) ⟨c_70, c_77⟩
            exact rMv S hr hlk hP hS ⟨_, _, _, _, ⟨hRK, by rw [hT9.1]; omega⟩, (by rw [hT9.1, hT9.2]; exact h47_6), h47___1_6, h47___2_6, h47___3_6, h47___4_6, h45_6, (fun j n0 n1 => hfr_6 j (by omega) (by omega) (by omega) (by omega) (by omega) (by omega))⟩ dX6_tell_90
      refine lv_icmp_gt (tgt := 66) hx hb dX6_tell_16 (by decide) (fun c_16 => ?_) (fun c_16 => ?_)
      · skip
        have c_16 := (nI_ltI (by omega) (by omega)).mp c_16
        have hG := tkR_e hS9 (by omega) hR9
        exact J66 q9 kd9 tp9 vl9 (by rw [hG]; exact hp9) (by rw [hG]; exact (Nat.zero_le _)) g_3 _ _ (by rw [hG]; exact h47_3) (by rw [hG]; exact h47___1_3) (by rw [hG]; exact h47___2_3) (by rw [hG]; exact h47___3_3) (by rw [hG]; exact h47___4_3) h45_3 hfr_3 hP hS _ (lv_sub hl [1, 2, 3, 4] rfl)
      · skip
        have c_16 := (not_congr (nI_ltI (by omega) (by omega))).mp c_16
        refine lv_aload_n hx hb dX6_tell_19 rfl (lv_at hl 2 rfl) ?_
        refine kXv (As := []) (rest := []) S hK hP hXF hS (c_X5_readToken l D cy ad N g_3 hinj sq sv 45 (by omega) 46 (by omega) tlen q9 kd9 tp9 vl9 T h45_3 h46_3 (by omega) hlen hT hq9) cv_X6_33 (by omega) h45_3 ⟨_, _, rfl⟩ ⟨rfl, rfl⟩ rfl hl.1 rfl (Nat.le_of_ble_eq_true rfl) ⟨Nat.zero_le _, Nat.zero_le _⟩ dX6_tell_20 (fun g_7 H locs q_7 hP hS => ?_)
        obtain ⟨vl2_7, hvl2_7, h45_7, f_7⟩ := q_7
        have h47_7 : g_7 47 = .inr (6, [.ref (ad (47 + 1)), .ref (ad (47 + 3)), .ref (ad (47 + 4)), .int (nI (pOp p9)), .int (nI (pWt p9)), .int (nI (pLt p9)), .int (nI (pRd p9)), .int (nI (pEm p9)), .int (nI (pOv p9)), .int (nI (0)), .int (nI (pl9))]) := (f_7 47 (by omega)).trans h47_3
        have h47___1_7 : g_7 (47 + 1) = .inr (0, [.ref (ad (47 + 2)), .int (nI (pLen p9))]) := (f_7 (47 + 1) (by omega)).trans h47___1_3
        have h47___2_7 : g_7 (47 + 2) = .inl (cy 0, 200, .inl (fun x9 => nI ((pB p9) x9))) := (f_7 (47 + 2) (by omega)).trans h47___2_3
        have h47___3_7 : g_7 (47 + 3) = .inl (cy 1, 4, .inl (fun x9 => nI ((pSt p9) x9))) := (f_7 (47 + 3) (by omega)).trans h47___3_3
        have h47___4_7 : g_7 (47 + 4) = .inl (cy 1, 4, .inl (fun x9 => nI ((pTm p9) x9))) := (f_7 (47 + 4) (by omega)).trans h47___4_3
        have h46_7 : g_7 46 = .inl (cy 0, 160, .inl (fun x9 => sb_b (T x9))) := (f_7 46 (by omega)).trans h46_3
        have h52_7 : g_7 52 = .inl (cy 3, 8, .inr (.inr (.inr (.inr ff)))) := (f_7 52 (by omega)).trans h52_3
        have hfam_FO_7 : (∀ j : Nat, j < 8 → g_7 (82 + 2 * j) = .inr (0, [.ref (ad (82 + 2 * j + 1)), .int (nI (Fl j))])) := fun j hj => (f_7 (82 + 2 * j) (by omega)).trans (hfam_FO_3 j hj)
        have hfam_FBm_7 : (∀ j : Nat, j < 8 → g_7 (82 + 2 * j + 1) = .inl (cy 0, 200, .inl (fun x9 => nI ((FB j) x9)))) := fun j hj => (f_7 (82 + 2 * j + 1) (by omega)).trans (hfam_FBm_3 j hj)
        have hfr_7 : ∀ j : Nat, j ≠ 47 → j ≠ (47 + 1) → j ≠ (47 + 2) → j ≠ (47 + 3) → j ≠ (47 + 4) → j ≠ 45 → g_7 j = g j := fun j n0 n1 n2 n3 n4 n5 => (f_7 j n5).trans (hfr_3 j n0 n1 n2 n3 n4 n5)
        have hvl2 := hvl2_7
        refine lv_aload_n hx hb dX6_tell_23 rfl (lv_at hl 1 rfl) ?_
        refine lv_aload_n hx hb dX6_tell_24 rfl (lv_at hl 1 rfl) ?_
        refine lv_aload_n hx hb dX6_tell_25 rfl (lv_at hl 2 rfl) ?_
        refine lv_aload_n hx hb dX6_tell_26 rfl (lv_at hl 3 rfl) ?_
        refine lv_iload_n hx hb dX6_tell_27 rfl (lv_at hl 4 rfl) ?_
        refine kMi (As := [.ref (ad 45), .ref (ad 52), .int (nI (kn))]) (rest := [.ref (ad 47)]) S hK hP hS (fun _ h => h) (c_X6_taken l D cy ad N g_7 hinj 47 (by omega) p9 0 pl9 h47_7 h47___1_7 h47___2_7 h47___3_7 h47___4_7 hp9 45 (by omega) 46 tlen (lxN T tlen q9) (lxK T tlen q9) (lxP T tlen q9) vl2_7 h45_7 (by omega) (lxV T tlen q9) (lxK_lt T tlen q9) (fun z => ⟨hvl2 z, (lxV_lt hT).1⟩) (lxV_lt hT).2 52 (by omega) ff h52_7 82 (by omega) hfj Fl FB hfam_FO_7 hfam_FBm_7 (by omega) hFl hFB kn hkn) cv_X6_36 (by omega) h47_7 ⟨_, _, rfl⟩ ⟨rfl, rfl⟩ rfl hl.1 rfl (Nat.le_of_ble_eq_true rfl) ⟨Nat.zero_le _, Nat.zero_le _⟩ dX6_tell_28 (fun r_28 g_8 H locs q_8 hP hS => ?_)
        obtain ⟨q_28, h47_8, h47___1_8, h47___2_8, h47___3_8, h47___4_8, f_8⟩ := q_8
        subst q_28
        have h45_8 : g_8 45 = .inr (5, [.ref (ad 46), .int (nI (tlen)), .int (nI (lxN T tlen q9)), .int (nI (lxK T tlen q9)), .int (nI (lxP T tlen q9)), .int vl2_7]) := (f_8 45 (by omega)).trans h45_7
        have h46_8 : g_8 46 = .inl (cy 0, 160, .inl (fun x9 => sb_b (T x9))) := (f_8 46 (by omega)).trans h46_7
        have h52_8 : g_8 52 = .inl (cy 3, 8, .inr (.inr (.inr (.inr ff)))) := (f_8 52 (by omega)).trans h52_7
        have hfam_FO_8 : (∀ j : Nat, j < 8 → g_8 (82 + 2 * j) = .inr (0, [.ref (ad (82 + 2 * j + 1)), .int (nI (Fl j))])) := fun j hj => (f_8 (82 + 2 * j) (by omega)).trans (hfam_FO_7 j hj)
        have hfam_FBm_8 : (∀ j : Nat, j < 8 → g_8 (82 + 2 * j + 1) = .inl (cy 0, 200, .inl (fun x9 => nI ((FB j) x9)))) := fun j hj => (f_8 (82 + 2 * j + 1) (by omega)).trans (hfam_FBm_7 j hj)
        have hfr_8 : ∀ j : Nat, j ≠ 47 → j ≠ (47 + 1) → j ≠ (47 + 2) → j ≠ (47 + 3) → j ≠ (47 + 4) → j ≠ 45 → (j < 47 ∨ 47 + 5 ≤ j) → g_8 j = g j := fun j n0 n1 n2 n3 n4 n5 n6 => (f_8 j n6).trans (hfr_7 j n0 n1 n2 n3 n4 n5)
        have hk7 := lxK_lt T tlen q9
        have ha4 : (tkAny Fl FB kn (lxK T tlen q9) (lxV T tlen q9) p9).1 ≤ 4 := tkAny_le
        have haK := tkAny_ok (Fl := Fl) (FB := FB) (kn := kn) (kd := lxK T tlen q9) (tv := lxV T tlen q9) (p := p9) hp9 hFB hkn (fun _ => (lxV_lt hT).1) (lxV_lt hT).2
        refine mp S hK hP hI hS (by omega) h47_8 fd_X6_40 rfl rfl (Nat.le_of_ble_eq_true rfl) dX6_tell_31 (fun g_9 H locs eg_9 hP hS => ?_)
        have h47_9 : g_9 47 = .inr (6, [.ref (ad (47 + 1)), .ref (ad (47 + 3)), .ref (ad (47 + 4)), .int (nI (pOp ((tkAny Fl FB kn (lxK T tlen q9) (lxV T tlen q9) p9).2))), .int (nI (pWt ((tkAny Fl FB kn (lxK T tlen q9) (lxV T tlen q9) p9).2))), .int (nI (pLt ((tkAny Fl FB kn (lxK T tlen q9) (lxV T tlen q9) p9).2))), .int (nI (pRd ((tkAny Fl FB kn (lxK T tlen q9) (lxV T tlen q9) p9).2))), .int (nI (pEm ((tkAny Fl FB kn (lxK T tlen q9) (lxV T tlen q9) p9).2))), .int (nI (pOv ((tkAny Fl FB kn (lxK T tlen q9) (lxV T tlen q9) p9).2))), .int (nI ((tkAny Fl FB kn (lxK T tlen q9) (lxV T tlen q9) p9).1)), .int (nI (pl9))]) := by rw [eg_9, va_up_self]; exact rfl
        have h47___1_9 : g_9 (47 + 1) = .inr (0, [.ref (ad (47 + 2)), .int (nI (pLen ((tkAny Fl FB kn (lxK T tlen q9) (lxV T tlen q9) p9).2)))]) := ((congrFun eg_9 _).trans (va_up_ne _ _ (by omega))).trans h47___1_8
        have h47___2_9 : g_9 (47 + 2) = .inl (cy 0, 200, .inl (fun x9 => nI ((pB ((tkAny Fl FB kn (lxK T tlen q9) (lxV T tlen q9) p9).2)) x9))) := ((congrFun eg_9 _).trans (va_up_ne _ _ (by omega))).trans h47___2_8
        have h47___3_9 : g_9 (47 + 3) = .inl (cy 1, 4, .inl (fun x9 => nI ((pSt ((tkAny Fl FB kn (lxK T tlen q9) (lxV T tlen q9) p9).2)) x9))) := ((congrFun eg_9 _).trans (va_up_ne _ _ (by omega))).trans h47___3_8
        have h47___4_9 : g_9 (47 + 4) = .inl (cy 1, 4, .inl (fun x9 => nI ((pTm ((tkAny Fl FB kn (lxK T tlen q9) (lxV T tlen q9) p9).2)) x9))) := ((congrFun eg_9 _).trans (va_up_ne _ _ (by omega))).trans h47___4_8
        have h45_9 : g_9 45 = .inr (5, [.ref (ad 46), .int (nI (tlen)), .int (nI (lxN T tlen q9)), .int (nI (lxK T tlen q9)), .int (nI (lxP T tlen q9)), .int vl2_7]) := ((congrFun eg_9 _).trans (va_up_ne _ _ (by omega))).trans h45_8
        have h46_9 : g_9 46 = .inl (cy 0, 160, .inl (fun x9 => sb_b (T x9))) := ((congrFun eg_9 _).trans (va_up_ne _ _ (by omega))).trans h46_8
        have h52_9 : g_9 52 = .inl (cy 3, 8, .inr (.inr (.inr (.inr ff)))) := ((congrFun eg_9 _).trans (va_up_ne _ _ (by omega))).trans h52_8
        have hfam_FO_9 : (∀ j : Nat, j < 8 → g_9 (82 + 2 * j) = .inr (0, [.ref (ad (82 + 2 * j + 1)), .int (nI (Fl j))])) := fun j hj => ((congrFun eg_9 _).trans (va_up_ne _ _ (by omega))).trans (hfam_FO_8 j hj)
        have hfam_FBm_9 : (∀ j : Nat, j < 8 → g_9 (82 + 2 * j + 1) = .inl (cy 0, 200, .inl (fun x9 => nI ((FB j) x9)))) := fun j hj => ((congrFun eg_9 _).trans (va_up_ne _ _ (by omega))).trans (hfam_FBm_8 j hj)
        have hfr_9 : ∀ j : Nat, j ≠ 47 → j ≠ (47 + 1) → j ≠ (47 + 2) → j ≠ (47 + 3) → j ≠ (47 + 4) → j ≠ 45 → (j < 47 ∨ 47 + 5 ≤ j) → g_9 j = g j := fun j n0 n1 n2 n3 n4 n5 n6 => ((congrFun eg_9 _).trans (va_up_ne _ _ n0)).trans (hfr_8 j n0 n1 n2 n3 n4 n5 n6)
        refine lv_aload_n hx hb dX6_tell_34 rfl (lv_at hl 1 rfl) ?_
        refine lv_aload_n hx hb dX6_tell_35 rfl (lv_at hl 2 rfl) ?_
        refine mg S hK hP (by omega) h45_9 fd_X6_44 rfl dX6_tell_36 ?_
        refine mp S hK hP hI hS (by omega) h47_9 fd_X6_47 rfl rfl (Nat.le_of_ble_eq_true rfl) dX6_tell_39 (fun g_10 H locs eg_10 hP hS => ?_)
        have h47_10 : g_10 47 = .inr (6, [.ref (ad (47 + 1)), .ref (ad (47 + 3)), .ref (ad (47 + 4)), .int (nI (pOp ((tkAny Fl FB kn (lxK T tlen q9) (lxV T tlen q9) p9).2))), .int (nI (pWt ((tkAny Fl FB kn (lxK T tlen q9) (lxV T tlen q9) p9).2))), .int (nI (pLt ((tkAny Fl FB kn (lxK T tlen q9) (lxV T tlen q9) p9).2))), .int (nI (pRd ((tkAny Fl FB kn (lxK T tlen q9) (lxV T tlen q9) p9).2))), .int (nI (pEm ((tkAny Fl FB kn (lxK T tlen q9) (lxV T tlen q9) p9).2))), .int (nI (pOv ((tkAny Fl FB kn (lxK T tlen q9) (lxV T tlen q9) p9).2))), .int (nI ((tkAny Fl FB kn (lxK T tlen q9) (lxV T tlen q9) p9).1)), .int (nI (lxP T tlen q9))]) := by rw [eg_10, va_up_self]; exact rfl
        have h47___1_10 : g_10 (47 + 1) = .inr (0, [.ref (ad (47 + 2)), .int (nI (pLen ((tkAny Fl FB kn (lxK T tlen q9) (lxV T tlen q9) p9).2)))]) := ((congrFun eg_10 _).trans (va_up_ne _ _ (by omega))).trans h47___1_9
        have h47___2_10 : g_10 (47 + 2) = .inl (cy 0, 200, .inl (fun x9 => nI ((pB ((tkAny Fl FB kn (lxK T tlen q9) (lxV T tlen q9) p9).2)) x9))) := ((congrFun eg_10 _).trans (va_up_ne _ _ (by omega))).trans h47___2_9
        have h47___3_10 : g_10 (47 + 3) = .inl (cy 1, 4, .inl (fun x9 => nI ((pSt ((tkAny Fl FB kn (lxK T tlen q9) (lxV T tlen q9) p9).2)) x9))) := ((congrFun eg_10 _).trans (va_up_ne _ _ (by omega))).trans h47___3_9
        have h47___4_10 : g_10 (47 + 4) = .inl (cy 1, 4, .inl (fun x9 => nI ((pTm ((tkAny Fl FB kn (lxK T tlen q9) (lxV T tlen q9) p9).2)) x9))) := ((congrFun eg_10 _).trans (va_up_ne _ _ (by omega))).trans h47___4_9
        have h45_10 : g_10 45 = .inr (5, [.ref (ad 46), .int (nI (tlen)), .int (nI (lxN T tlen q9)), .int (nI (lxK T tlen q9)), .int (nI (lxP T tlen q9)), .int vl2_7]) := ((congrFun eg_10 _).trans (va_up_ne _ _ (by omega))).trans h45_9
        have h46_10 : g_10 46 = .inl (cy 0, 160, .inl (fun x9 => sb_b (T x9))) := ((congrFun eg_10 _).trans (va_up_ne _ _ (by omega))).trans h46_9
        have h52_10 : g_10 52 = .inl (cy 3, 8, .inr (.inr (.inr (.inr ff)))) := ((congrFun eg_10 _).trans (va_up_ne _ _ (by omega))).trans h52_9
        have hfam_FO_10 : (∀ j : Nat, j < 8 → g_10 (82 + 2 * j) = .inr (0, [.ref (ad (82 + 2 * j + 1)), .int (nI (Fl j))])) := fun j hj => ((congrFun eg_10 _).trans (va_up_ne _ _ (by omega))).trans (hfam_FO_9 j hj)
        have hfam_FBm_10 : (∀ j : Nat, j < 8 → g_10 (82 + 2 * j + 1) = .inl (cy 0, 200, .inl (fun x9 => nI ((FB j) x9)))) := fun j hj => ((congrFun eg_10 _).trans (va_up_ne _ _ (by omega))).trans (hfam_FBm_9 j hj)
        have hfr_10 : ∀ j : Nat, j ≠ 47 → j ≠ (47 + 1) → j ≠ (47 + 2) → j ≠ (47 + 3) → j ≠ (47 + 4) → j ≠ 45 → (j < 47 ∨ 47 + 5 ≤ j) → g_10 j = g j := fun j n0 n1 n2 n3 n4 n5 n6 => ((congrFun eg_10 _).trans (va_up_ne _ _ n0)).trans (hfr_9 j n0 n1 n2 n3 n4 n5 n6)
        refine lv_aload_n hx hb dX6_tell_42 rfl (lv_at hl 1 rfl) ?_
        refine mg S hK hP (by omega) h47_10 fd_X6_40 rfl dX6_tell_43 ?_
        refine lv_if_ne (tgt := 66) hx hb dX6_tell_46 (by decide) (fun c_46 => ?_) (fun c_46 => ?_)
        · skip
          have c_46 := (not_congr (z_eq (by omega))).mp c_46
          have hG : R9 = (lxN T tlen q9, (tkAny Fl FB kn (lxK T tlen q9) (lxV T tlen q9) p9).2, (tkAny Fl FB kn (lxK T tlen q9) (lxV T tlen q9) p9).1, lxP T tlen q9, 1) := tkR_g hS9 (by omega) hR9 rfl (Or.inl c_46)
          exact J66 (lxN T tlen q9) (lxK T tlen q9) (lxP T tlen q9) vl2_7 (by rw [hG]; exact haK) (by rw [hG]; exact ha4) g_10 _ _ (by rw [hG]; exact h47_10) (by rw [hG]; exact h47___1_10) (by rw [hG]; exact h47___2_10) (by rw [hG]; exact h47___3_10) (by rw [hG]; exact h47___4_10) h45_10 (fun j n0 n1 n2 n3 n4 n5 => hfr_10 j (by omega) (by omega) (by omega) (by omega) (by omega) (by omega) (by omega)) hP hS _ (lv_sub hl [1, 2, 3, 4] rfl)
        · skip
          have c_46 := (z_eq (by omega)).mp c_46
          refine lv_aload_n hx hb dX6_tell_49 rfl (lv_at hl 2 rfl) ?_
          refine mg S hK hP (by omega) h45_10 fd_X6_50 rfl dX6_tell_50 ?_
          refine lv_iconst (v := nI (5)) hx hb dX6_tell_53 (by decide) ?_
          refine lv_icmp_ne (tgt := 60) hx hb dX6_tell_54 (by decide) (fun c_54 => ?_) (fun c_54 => ?_)
          · skip
            have c_54 := (not_congr (nI_eq (by omega) (by omega))).mp c_54
            have hS8 := tkR_n hS9 rfl c_46 c_54
            refine lv_iinc (v := nI (i9 + 1)) (lv' := [(4, .int (nI (i9 + 1))), (0, .ref (ad 47)), (1, .ref (ad 45)), (2, .ref (ad 52)), (3, .int (nI (kn)))]) hx hb dX6_tell_60 hl (k := 0) rfl (by exact nI_add i9 1) (by decide) rfl (fun ls hl => ?_)
            refine lv_goto (tgt := 11) hx hb dX6_tell_63 (by decide) ?_
            exact ih11 (i9 + 1) (lxN T tlen q9) (lxP T tlen q9) (lxK T tlen q9) (lxP T tlen q9) vl2_7 ((tkAny Fl FB kn (lxK T tlen q9) (lxV T tlen q9) p9).2) (by omega) hS8 haK (lxN_bd hq9).2.1 (by omega) g_10 _ _ (by have q := h47_10; rw [c_46] at q; exact q) h47___1_10 h47___2_10 h47___3_10 h47___4_10 h45_10 (fun j n0 n1 n2 n3 n4 n5 => hfr_10 j (by omega) (by omega) (by omega) (by omega) (by omega) (by omega) (by omega)) hP hS _ (lv_sub hl [0, 1, 2, 3, 4] rfl)
          · skip
            have c_54 := (nI_eq (by omega) (by omega)).mp c_54
            have hG : R9 = (lxN T tlen q9, (tkAny Fl FB kn (lxK T tlen q9) (lxV T tlen q9) p9).2, (tkAny Fl FB kn (lxK T tlen q9) (lxV T tlen q9) p9).1, lxP T tlen q9, 1) := tkR_g hS9 (by omega) hR9 rfl (Or.inr c_54)
            refine lv_goto (tgt := 66) hx hb dX6_tell_57 (by decide) ?_
            exact J66 (lxN T tlen q9) (lxK T tlen q9) (lxP T tlen q9) vl2_7 (by rw [hG]; exact haK) (by rw [hG]; exact ha4) g_10 _ _ (by rw [hG]; exact h47_10) (by rw [hG]; exact h47___1_10) (by rw [hG]; exact h47___2_10) (by rw [hG]; exact h47___3_10) (by rw [hG]; exact h47___4_10) h45_10 (fun j n0 n1 n2 n3 n4 n5 => hfr_10 j (by omega) (by omega) (by omega) (by omega) (by omega) (by omega) (by omega)) hP hS _ (lv_sub hl [1, 2, 3, 4] rfl)
  exact L11 ((161 - 0) + 1) 0 0 0 kd0 tpl tvl ((beP ps)) (by omega) rfl (beP_ok hps) (by omega) (Nat.lt_succ_self _) g_2 _ _ h47_2 h47___1_2 h47___2_2 h47___3_2 h47___4_2 h45_2 (fun j n0 n1 n2 n3 n4 n5 => hfr_2 j (by omega) (by omega)) hP hS _ (lv_sub hl [0, 1, 2, 3, 4] rfl)


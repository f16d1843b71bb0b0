set_option maxHeartbeats 4000000 in
set_option maxRecDepth 100000 in
theorem c_X6_closed (l : Launch) (D : va_G) (cy : Nat → ClassId) (ad : Nat → Nat) (N : Nat) (g : Nat → va_E) (hinj : ∀ i j : Nat, i < N → j < N → ad i = ad j → i = j) (b : Nat) (hbN : b + 5 ≤ N) (ps : PS) (ft : Nat) (fp : Nat) (hg : g b = .inr (6, [.ref (ad (b + 1)), .ref (ad (b + 3)), .ref (ad (b + 4)), .int (nI (pOp ps)), .int (nI (pWt ps)), .int (nI (pLt ps)), .int (nI (pRd ps)), .int (nI (pEm ps)), .int (nI (pOv ps)), .int (nI (ft)), .int (nI (fp))])) (hgd : g (b + 1) = .inr (0, [.ref (ad (b + 2)), .int (nI (pLen ps))])) (hgb : g (b + 2) = .inl (cy 0, 200, .inl (fun x9 => nI ((pB ps) x9)))) (hgs : g (b + 3) = .inl (cy 1, 4, .inl (fun x9 => nI ((pSt ps) x9)))) (hgt : g (b + 4) = .inl (cy 1, 4, .inl (fun x9 => nI ((pTm ps) x9)))) (hps : POK ps) (h0p : 0 < pOp ps) : Met l yX6_closed (WS yX6_closed cX6_closed 4 (some .int)) (rmF 2 45) (PP [.ref (ad b)] D cy ad N g) (QI (fun r g1 => (r = nI (0)) ∧ g1 b = .inr (6, [.ref (ad (b + 1)), .ref (ad (b + 3)), .ref (ad (b + 4)), .int (nI (pOp (clP ps))), .int (nI (pWt (clP ps))), .int (nI (pLt (clP ps))), .int (nI (pRd (clP ps))), .int (nI (pEm (clP ps))), .int (nI (pOv (clP ps))), .int (nI (ft)), .int (nI (fp))]) ∧ g1 (b + 1) = .inr (0, [.ref (ad (b + 2)), .int (nI (pLen (clP ps)))]) ∧ g1 (b + 2) = .inl (cy 0, 200, .inl (fun x9 => nI ((pB (clP ps)) x9))) ∧ g1 (b + 3) = .inl (cy 1, 4, .inl (fun x9 => nI ((pSt (clP ps)) x9))) ∧ g1 (b + 4) = .inl (cy 1, 4, .inl (fun x9 => nI ((pTm (clP ps)) x9))) ∧ (∀ j, (j < b ∨ b + 5 ≤ j) → g1 j = g j)) D ad N) 0 0 (AA ad N) := by
  refine mentry (by decide) (Nat.le_of_ble_eq_true rfl) (fun p e s m below meth c ls S hr hlk hnm hP hK hl => ?_)
  have S : CallFix p m c cX6_closed 4 s _ wsL_law RX6 := S
  have hx := S.1
  have hb := S.2.1
  have hl : lv_has ls 4 [(0, .ref (ad b))] := hl
  have hI : MD (AA ad N) ad N := MD.in hinj
  have hS : va_S (AA ad N) s.heap s.heap [] := va_S.rf
  have hfr : ∀ j : Nat, g j = g j := fun _ => rfl
  have hL := hps.1.1
  have hB := hps.1.2
  have hOp := hps.2.1.1
  have hWt := hps.2.1.2.1
  have hLt := hps.2.1.2.2.1
  have hRd := hps.2.1.2.2.2.1
  have hEm := hps.2.1.2.2.2.2.1
  have hOv := hps.2.1.2.2.2.2.2
  have hfrl := hps.2.2.2.2 (pOp ps - 1) (by omega)
  have hst := hps.2.2.1 (pOp ps - 1)
  have htm := hps.2.2.2.1 (pOp ps - 1)
  have hopd := opD_ok hps
  refine lv_aload_n hx hb dX6_closed_0 rfl (lv_at hl 0 rfl) ?_
  refine lv_dup hx hb dX6_closed_1 rfl ?_
  refine mg S hK hP (by omega) hg fd_X6_60 rfl dX6_closed_2 ?_
  refine lv_iconst (v := nI (1)) hx hb dX6_closed_5 (by decide) ?_
  refine lv_isub hx hb dX6_closed_6 ?_
  refine tpi (pk_sub (a := pOp ps) (b := 1) (by omega)) ?_
  refine mp S hK hP hI hS (by omega) hg fd_X6_60 rfl rfl (Nat.le_of_ble_eq_true rfl) dX6_closed_7 (fun g_1 H locs eg_1 hP hS => ?_)
  have hb_1 : g_1 b = .inr (6, [.ref (ad (b + 1)), .ref (ad (b + 3)), .ref (ad (b + 4)), .int (nI (pOp ps - 1)), .int (nI (pWt ps)), .int (nI (pLt ps)), .int (nI (pRd ps)), .int (nI (pEm ps)), .int (nI (pOv ps)), .int (nI (ft)), .int (nI (fp))]) := by rw [eg_1, va_up_self]; exact rfl
  have hb___1_1 : g_1 (b + 1) = .inr (0, [.ref (ad (b + 2)), .int (nI (pLen ps))]) := ((congrFun eg_1 _).trans (va_up_ne _ _ (by omega))).trans hgd
  have hb___2_1 : g_1 (b + 2) = .inl (cy 0, 200, .inl (fun x9 => nI ((pB ps) x9))) := ((congrFun eg_1 _).trans (va_up_ne _ _ (by omega))).trans hgb
  have hb___3_1 : g_1 (b + 3) = .inl (cy 1, 4, .inl (fun x9 => nI ((pSt ps) x9))) := ((congrFun eg_1 _).trans (va_up_ne _ _ (by omega))).trans hgs
  have hb___4_1 : g_1 (b + 4) = .inl (cy 1, 4, .inl (fun x9 => nI ((pTm ps) x9))) := ((congrFun eg_1 _).trans (va_up_ne _ _ (by omega))).trans hgt
  have hfr_1 : ∀ j : Nat, j ≠ b → g_1 j = g j := fun j n0 => ((congrFun eg_1 _).trans (va_up_ne _ _ n0)).trans (hfr j )
  refine lv_aload_n hx hb dX6_closed_10 rfl (lv_at hl 0 rfl) ?_
  refine mg S hK hP (by omega) hb_1 fd_X6_60 rfl dX6_closed_11 ?_
  refine lv_if_lt (tgt := 97) hx hb dX6_closed_14 (by decide) (fun c_14 => ?_) (fun c_14 => ?_)
  · skip
    have c_14 := (z_lt (by omega)).mp c_14
    exact c_14.elim
  · skip
    have c_14 := (not_congr (z_lt (by omega))).mp c_14
    refine lv_aload_n hx hb dX6_closed_17 rfl (lv_at hl 0 rfl) ?_
    refine mg S hK hP (by omega) hb_1 fd_X6_60 rfl dX6_closed_18 ?_
    refine lv_aload_n hx hb dX6_closed_21 rfl (lv_at hl 0 rfl) ?_
    refine mg S hK hP (by omega) hb_1 fd_X6_18 rfl dX6_closed_22 ?_
    refine malen S hK hP (by omega) hb___3_1 rfl (v := nI 4) rfl dX6_closed_25 ?_
    refine lv_icmp_ge (tgt := 97) hx hb dX6_closed_26 (by decide) (fun c_26 => ?_) (fun c_26 => ?_)
    · skip
      have c_26 := (nI_leI (by omega) (by omega)).mp c_26
      exact absurd c_26 (by omega)
    · skip
      have c_26 := (not_congr (nI_leI (by omega) (by omega))).mp c_26
      refine lv_aload_n hx hb dX6_closed_29 rfl (lv_at hl 0 rfl) ?_
      refine mg S hK hP (by omega) hb_1 fd_X6_60 rfl dX6_closed_30 ?_
      refine lv_aload_n hx hb dX6_closed_33 rfl (lv_at hl 0 rfl) ?_
      refine mg S hK hP (by omega) hb_1 fd_X6_22 rfl dX6_closed_34 ?_
      refine malen S hK hP (by omega) hb___4_1 rfl (v := nI 4) rfl dX6_closed_37 ?_
      refine lv_icmp_ge (tgt := 97) hx hb dX6_closed_38 (by decide) (fun c_38 => ?_) (fun c_38 => ?_)
      · skip
        have c_38 := (nI_leI (by omega) (by omega)).mp c_38
        exact absurd c_38 (by omega)
      · skip
        have c_38 := (not_congr (nI_leI (by omega) (by omega))).mp c_38
        refine lv_aload_n hx hb dX6_closed_41 rfl (lv_at hl 0 rfl) ?_
        refine mg S hK hP (by omega) hb_1 fd_X6_18 rfl dX6_closed_42 ?_
        refine lv_aload_n hx hb dX6_closed_45 rfl (lv_at hl 0 rfl) ?_
        refine mg S hK hP (by omega) hb_1 fd_X6_60 rfl dX6_closed_46 ?_
        refine mial S hK hP (by omega) hb___3_1 (vp_in_nI (by omega) (by omega)) dX6_closed_49 ?_
        refine tpi (congrArg ((fun x9 => nI ((pSt ps) x9))) (nI_clamp (by omega))) ?_
        refine lv_istore_n (lv' := [(1, .int (nI ((pSt ps) (pOp ps - 1)))), (0, .ref (ad b))]) hx hb dX6_closed_50 rfl hl (by decide) rfl (fun ls hl => ?_)
        refine lv_aload_n hx hb dX6_closed_51 rfl (lv_at hl 1 rfl) ?_
        refine mg S hK hP (by omega) hb_1 fd_X6_12 rfl dX6_closed_52 ?_
        refine mg S hK hP (by omega) hb___1_1 fd_X6_57 rfl dX6_closed_55 ?_
        refine lv_istore_n (lv' := [(2, .int (nI (pLen ps))), (1, .int (nI ((pSt ps) (pOp ps - 1)))), (0, .ref (ad b))]) hx hb dX6_closed_58 rfl hl (by decide) rfl (fun ls hl => ?_)
        refine lv_iconst (v := nI (1)) hx hb dX6_closed_59 (by decide) ?_
        refine lv_istore_n (lv' := [(3, .int (nI (1))), (2, .int (nI (pLen ps))), (1, .int (nI ((pSt ps) (pOp ps - 1)))), (0, .ref (ad b))]) hx hb dX6_closed_60 rfl hl (by decide) rfl (fun ls hl => ?_)
        have L61 : ∀ (fu : Nat) (c1 : Nat), (c1 ≤ pTm ps (pOp ps - 1) - 1) → (3001 - c1) < fu → ∀ (g_2 : Nat → va_E) (H : Heap) (locs : List Loc), g_2 b = .inr (6, [.ref (ad (b + 1)), .ref (ad (b + 3)), .ref (ad (b + 4)), .int (nI (pOp ((clI (pSt ps (pOp ps - 1)) (pLen ps) (opD ps) c1)))), .int (nI (pWt ((clI (pSt ps (pOp ps - 1)) (pLen ps) (opD ps) c1)))), .int (nI (pLt ((clI (pSt ps (pOp ps - 1)) (pLen ps) (opD ps) c1)))), .int (nI (pRd ((clI (pSt ps (pOp ps - 1)) (pLen ps) (opD ps) c1)))), .int (nI (pEm ((clI (pSt ps (pOp ps - 1)) (pLen ps) (opD ps) c1)))), .int (nI (pOv ((clI (pSt ps (pOp ps - 1)) (pLen ps) (opD ps) c1)))), .int (nI (ft)), .int (nI (fp))]) → g_2 (b + 1) = .inr (0, [.ref (ad (b + 2)), .int (nI (pLen ((clI (pSt ps (pOp ps - 1)) (pLen ps) (opD ps) c1))))]) → g_2 (b + 2) = .inl (cy 0, 200, .inl (fun x9 => nI ((pB ((clI (pSt ps (pOp ps - 1)) (pLen ps) (opD ps) c1))) x9))) → g_2 (b + 3) = .inl (cy 1, 4, .inl (fun x9 => nI ((pSt ps) x9))) → g_2 (b + 4) = .inl (cy 1, 4, .inl (fun x9 => nI ((pTm ps) x9))) → (∀ j : Nat, (j < b ∨ b + 5 ≤ j) → g_2 j = g j) → MM D ad N g_2 H → va_S (AA ad N) s.heap H locs → ∀ (ls : Array Slot), lv_has ls 4 [(3, .int (nI (c1 + 1))), (2, .int (nI (pLen ps))), (1, .int (nI ((pSt ps) (pOp ps - 1)))), (0, .ref (ad b))] → W p l e (rmF 2 45) s m [.ref (ad b)].toArray below meth c H locs 0 0 (MQ below (QI (fun r g1 => (r = nI (0)) ∧ g1 b = .inr (6, [.ref (ad (b + 1)), .ref (ad (b + 3)), .ref (ad (b + 4)), .int (nI (pOp (clP ps))), .int (nI (pWt (clP ps))), .int (nI (pLt (clP ps))), .int (nI (pRd (clP ps))), .int (nI (pEm (clP ps))), .int (nI (pOv (clP ps))), .int (nI (ft)), .int (nI (fp))]) ∧ g1 (b + 1) = .inr (0, [.ref (ad (b + 2)), .int (nI (pLen (clP ps)))]) ∧ g1 (b + 2) = .inl (cy 0, 200, .inl (fun x9 => nI ((pB (clP ps)) x9))) ∧ g1 (b + 3) = .inl (cy 1, 4, .inl (fun x9 => nI ((pSt (clP ps)) x9))) ∧ g1 (b + 4) = .inl (cy 1, 4, .inl (fun x9 => nI ((pTm (clP ps)) x9))) ∧ (∀ j, (j < b ∨ b + 5 ≤ j) → g1 j = g j)) D ad N) [.ref (ad b)].toArray s 0 0 (AA ad N)) (F0 m 61 ls []) := by
          intro fu
          induction fu with
          | zero => intro c1 hc hms g_2 H locs hb_2 hb___1_2 hb___2_2 hb___3_2 hb___4_2 hfr_2 hP hS ls hl; exact absurd hms (Nat.not_lt_zero _)
          | succ fu ih61 =>
            intro c1 hc hms g_2 H locs hb_2 hb___1_2 hb___2_2 hb___3_2 hb___4_2 hfr_2 hP hS ls hl
            have hci := clI_ok (fr := pSt ps (pOp ps - 1)) (to := pLen ps) hopd c1
            have hciOp : pOp (clI (pSt ps (pOp ps - 1)) (pLen ps) (opD ps) c1) = pOp ps - 1 := hci.2.1.2.2.1
            have hciL : pLen ps ≤ pLen (clI (pSt ps (pOp ps - 1)) (pLen ps) (opD ps) c1) := hci.2.2
            have hciOv := hci.1.2.1.2.2.2.2.2
            refine lv_iload_n hx hb dX6_closed_61 rfl (lv_at hl 0 rfl) ?_
            refine lv_aload_n hx hb dX6_closed_62 rfl (lv_at hl 3 rfl) ?_
            refine mg S hK hP (by omega) hb_2 fd_X6_22 rfl dX6_closed_63 ?_
            refine lv_aload_n hx hb dX6_closed_66 rfl (lv_at hl 3 rfl) ?_
            refine mg S hK hP (by omega) hb_2 fd_X6_60 rfl dX6_closed_67 ?_
            refine mial S hK hP (by omega) hb___4_2 (vp_in_nI (by omega) (by omega)) dX6_closed_70 ?_
            refine tpi (congrArg ((fun x9 => nI ((pTm ps) x9))) (nI_clamp (by omega))) ?_
            refine tpi (by rw [hciOp]) ?_
            refine lv_icmp_ge (tgt := 97) hx hb dX6_closed_71 (by decide) (fun c_71 => ?_) (fun c_71 => ?_)
            · skip
              have c_71 := (nI_leI (by omega) (by omega)).mp c_71
              refine lv_iconst (v := nI (0)) hx hb dX6_closed_97 (by decide) ?_
              have hEnd : clP ps = (clI (pSt ps (pOp ps - 1)) (pLen ps) (opD ps) c1) := by first | (unfold clP; rw [show pTm ps (pOp ps - 1) - 1 = c1 by omega]; done) | (have z := clI_end c_78 (pTm ps (pOp ps - 1) - 1 - c1); rw [show c1 + (pTm ps (pOp ps - 1) - 1 - c1) = pTm ps (pOp ps - 1) - 1 by omega] at z; exact z)
              exact rMi S hr hlk hP hS ⟨rfl, (by rw [hEnd]; exact hb_2), (by rw [hEnd]; exact hb___1_2), (by rw [hEnd]; exact hb___2_2), (by rw [hEnd, hci.2.1.1]; exact hb___3_2), (by rw [hEnd, hci.2.1.2.1]; exact hb___4_2), hfr_2⟩ dX6_closed_98
            · skip
              have c_71 := (not_congr (nI_leI (by omega) (by omega))).mp c_71
              refine lv_aload_n hx hb dX6_closed_74 rfl (lv_at hl 3 rfl) ?_
              refine mg S hK hP (by omega) hb_2 fd_X6_53 rfl dX6_closed_75 ?_
              refine lv_if_ne (tgt := 97) hx hb dX6_closed_78 (by decide) (fun c_78 => ?_) (fun c_78 => ?_)
              · skip
                have c_78 := (not_congr (z_eq (by omega))).mp c_78
                refine lv_iconst (v := nI (0)) hx hb dX6_closed_97 (by decide) ?_
                have hEnd : clP ps = (clI (pSt ps (pOp ps - 1)) (pLen ps) (opD ps) c1) := by first | (unfold clP; rw [show pTm ps (pOp ps - 1) - 1 = c1 by omega]; done) | (have z := clI_end c_78 (pTm ps (pOp ps - 1) - 1 - c1); rw [show c1 + (pTm ps (pOp ps - 1) - 1 - c1) = pTm ps (pOp ps - 1) - 1 by omega] at z; exact z)
                exact rMi S hr hlk hP hS ⟨rfl, (by rw [hEnd]; exact hb_2), (by rw [hEnd]; exact hb___1_2), (by rw [hEnd]; exact hb___2_2), (by rw [hEnd, hci.2.1.1]; exact hb___3_2), (by rw [hEnd, hci.2.1.2.1]; exact hb___4_2), hfr_2⟩ dX6_closed_98
              · skip
                have c_78 := (z_eq (by omega)).mp c_78
                refine lv_aload_n hx hb dX6_closed_81 rfl (lv_at hl 3 rfl) ?_
                refine lv_aload_n hx hb dX6_closed_82 rfl (lv_at hl 3 rfl) ?_
                refine mg S hK hP (by omega) hb_2 fd_X6_12 rfl dX6_closed_83 ?_
                refine lv_iload_n hx hb dX6_closed_86 rfl (lv_at hl 2 rfl) ?_
                refine lv_iload_n hx hb dX6_closed_87 rfl (lv_at hl 1 rfl) ?_
                refine kMv (As := [.ref (ad (b + 1)), .int (nI ((pSt ps) (pOp ps - 1))), .int (nI (pLen ps))]) (rest := []) S hK hP hS (fun _ h => h) (c_X6_writeOutD l D cy ad N g_2 hinj b (by omega) ((clI (pSt ps (pOp ps - 1)) (pLen ps) (opD ps) c1)) ft fp hb_2 hb___1_2 hb___2_2 (by rw [hci.2.1.1]; exact hb___3_2) (by rw [hci.2.1.2.1]; exact hb___4_2) hci.1 ((pSt ps) (pOp ps - 1)) (pLen ps) hfrl hciL) cv_X6_102 (by omega) hb_2 ⟨_, _, rfl⟩ ⟨rfl, rfl⟩ rfl hl.1 rfl (Nat.le_of_ble_eq_true rfl) ⟨Nat.zero_le _, Nat.zero_le _⟩ dX6_closed_88 (fun g_3 H locs q_3 hP hS => ?_)
                obtain ⟨hb_3, hb___1_3, hb___2_3, hb___3_3, hb___4_3, f_3⟩ := q_3
                have hfr_3 : ∀ j : Nat, (j < b ∨ b + 5 ≤ j) → g_3 j = g j := fun j n0 => (f_3 j n0).trans (hfr_2 j n0)
                refine lv_iinc (v := nI ((c1 + 1) + 1)) (lv' := [(3, .int (nI ((c1 + 1) + 1))), (2, .int (nI (pLen ps))), (1, .int (nI ((pSt ps) (pOp ps - 1)))), (0, .ref (ad b))]) hx hb dX6_closed_91 hl (k := 0) rfl (by exact nI_add (c1 + 1) 1) (by decide) rfl (fun ls hl => ?_)
                refine lv_goto (tgt := 61) hx hb dX6_closed_94 (by decide) ?_
                exact ih61 (c1 + 1) (by omega) (by omega) g_3 _ _ (by rw [clI, if_pos c_78]; exact hb_3) (by rw [clI, if_pos c_78]; exact hb___1_3) (by rw [clI, if_pos c_78]; exact hb___2_3) (by rw [show pSt ps = pSt (clI (pSt ps (pOp ps - 1)) (pLen ps) (opD ps) c1) from hci.2.1.1.symm]; exact hb___3_3) (by rw [show pTm ps = pTm (clI (pSt ps (pOp ps - 1)) (pLen ps) (opD ps) c1) from hci.2.1.2.1.symm]; exact hb___4_3) hfr_3 hP hS _ (lv_sub hl [0, 1, 2, 3] rfl)
        exact L61 ((3001 - 0) + 1) 0 (by omega) (Nat.lt_succ_self _) g_1 _ _ hb_1 hb___1_1 hb___2_1 hb___3_1 hb___4_1 (fun j n0 => hfr_1 j (by omega)) hP hS _ (lv_sub hl [0, 1, 2, 3] rfl)
set_option maxHeartbeats 4000000 in
set_option maxRecDepth 100000 in
theorem c_X6_takenItem (l : Launch) (D : va_G) (cy : Nat → ClassId) (ad : Nat → Nat) (N : Nat) (g : Nat → va_E) (hinj : ∀ i j : Nat, i < N → j < N → ad i = ad j → i = j) (b : Nat) (hbN : b + 5 ≤ N) (ps : PS) (ft : Nat) (fp : Nat) (hg : g b = .inr (6, [.ref (ad (b + 1)), .ref (ad (b + 3)), .ref (ad (b + 4)), .int (nI (pOp ps)), .int (nI (pWt ps)), .int (nI (pLt ps)), .int (nI (pRd ps)), .int (nI (pEm ps)), .int (nI (pOv ps)), .int (nI (ft)), .int (nI (fp))])) (hgd : g (b + 1) = .inr (0, [.ref (ad (b + 2)), .int (nI (pLen ps))])) (hgb : g (b + 2) = .inl (cy 0, 200, .inl (fun x9 => nI ((pB ps) x9)))) (hgs : g (b + 3) = .inl (cy 1, 4, .inl (fun x9 => nI ((pSt ps) x9)))) (hgt : g (b + 4) = .inl (cy 1, 4, .inl (fun x9 => nI ((pTm ps) x9)))) (hps : POK ps) (tk : Nat) (htk : tk < N) (tkt : Nat) (tlen : Nat) (trd : Nat) (kd : Nat) (tpl : Nat) (vl : Int32) (hgk : g tk = .inr (5, [.ref (ad tkt), .int (nI (tlen)), .int (nI (trd)), .int (nI (kd)), .int (nI (tpl)), .int vl])) (htko : tk < b ∨ b + 5 ≤ tk) (tv : Nat) (hkd : kd < 7) (hvl : kd < 2 → vl = nI tv ∧ tv < 3000) (hv7 : kd = 0 → tv < 7) : Met l yX6_takenItem (WS yX6_takenItem cX6_takenItem 2 (some .int)) (rmF 3 68) (PP [.ref (ad b), .ref (ad tk)] D cy ad N g) (QI (fun r g1 => (r = nI ((tkItem kd tv ps).1)) ∧ g1 b = .inr (6, [.ref (ad (b + 1)), .ref (ad (b + 3)), .ref (ad (b + 4)), .int (nI (pOp ((tkItem kd tv ps).2))), .int (nI (pWt ((tkItem kd tv ps).2))), .int (nI (pLt ((tkItem kd tv ps).2))), .int (nI (pRd ((tkItem kd tv ps).2))), .int (nI (pEm ((tkItem kd tv ps).2))), .int (nI (pOv ((tkItem kd tv ps).2))), .int (nI (ft)), .int (nI (fp))]) ∧ g1 (b + 1) = .inr (0, [.ref (ad (b + 2)), .int (nI (pLen ((tkItem kd tv ps).2)))]) ∧ g1 (b + 2) = .inl (cy 0, 200, .inl (fun x9 => nI ((pB ((tkItem kd tv ps).2)) x9))) ∧ g1 (b + 3) = .inl (cy 1, 4, .inl (fun x9 => nI ((pSt ((tkItem kd tv ps).2)) x9))) ∧ g1 (b + 4) = .inl (cy 1, 4, .inl (fun x9 => nI ((pTm ((tkItem kd tv ps).2)) x9))) ∧ (∀ j, (j < b ∨ b + 5 ≤ j) → g1 j = g j)) D ad N) 0 0 (AA ad N) := by
  refine mentry (by decide) (Nat.le_of_ble_eq_true rfl) (fun p e s m below meth c ls S hr hlk hnm hP hK hl => ?_)
  have S : CallFix p m c cX6_takenItem 2 s _ wsL_law RX6 := S
  have hx := S.1
  have hb := S.2.1
  have hl : lv_has ls 2 [(0, .ref (ad b)), (1, .ref (ad tk))] := hl
  have hI : MD (AA ad N) ad N := MD.in hinj
  have hS : va_S (AA ad N) s.heap s.heap [] := va_S.rf
  have hfr : ∀ j : Nat, g j = g j := fun _ => rfl
  have hL := hps.1.1
  have hB := hps.1.2
  have hOp := hps.2.1.1
  have hWt := hps.2.1.2.1
  have hLt := hps.2.1.2.2.1
  have hRd := hps.2.1.2.2.2.1
  have hEm := hps.2.1.2.2.2.2.1
  have hOv := hps.2.1.2.2.2.2.2
  refine lv_aload_n hx hb dX6_takenItem_0 rfl (lv_at hl 1 rfl) ?_
  refine mg S hK hP htk hgk fd_X6_50 rfl dX6_takenItem_1 ?_
  rcases (show kd = 0 ∨ kd = 1 ∨ kd = 2 ∨ kd = 3 ∨ kd = 4 ∨ kd = 5 ∨ kd = 6 by omega) with rfl | rfl | rfl | rfl | rfl | rfl | rfl
  · skip
    refine lv_tableIn (tgt := 44) hx hb dX6_takenItem_4 (by decide) (by decide) rfl (by decide) ?_
    have htv7 := hv7 rfl
    refine lv_aload_n hx hb dX6_takenItem_44 rfl (lv_at hl 0 rfl) ?_
    refine lv_aload_n hx hb dX6_takenItem_45 rfl (lv_at hl 1 rfl) ?_
    refine mg S hK hP htk hgk fd_X6_79 rfl dX6_takenItem_46 ?_
    refine tpi ((hvl (by omega)).1) ?_
    refine mp S hK hP hI hS (by omega) hg fd_X6_82 rfl rfl (Nat.le_of_ble_eq_true rfl) dX6_takenItem_49 (fun g_1 H locs eg_1 hP hS => ?_)
    have hb_1 : g_1 b = .inr (6, [.ref (ad (b + 1)), .ref (ad (b + 3)), .ref (ad (b + 4)), .int (nI (pOp ps)), .int (nI (pWt ps)), .int (nI (tv)), .int (nI (pRd ps)), .int (nI (pEm ps)), .int (nI (pOv ps)), .int (nI (ft)), .int (nI (fp))]) := by rw [eg_1, va_up_self]; exact rfl
    have hb___1_1 : g_1 (b + 1) = .inr (0, [.ref (ad (b + 2)), .int (nI (pLen ps))]) := ((congrFun eg_1 _).trans (va_up_ne _ _ (by omega))).trans hgd
    have hb___2_1 : g_1 (b + 2) = .inl (cy 0, 200, .inl (fun x9 => nI ((pB ps) x9))) := ((congrFun eg_1 _).trans (va_up_ne _ _ (by omega))).trans hgb
    have hb___3_1 : g_1 (b + 3) = .inl (cy 1, 4, .inl (fun x9 => nI ((pSt ps) x9))) := ((congrFun eg_1 _).trans (va_up_ne _ _ (by omega))).trans hgs
    have hb___4_1 : g_1 (b + 4) = .inl (cy 1, 4, .inl (fun x9 => nI ((pTm ps) x9))) := ((congrFun eg_1 _).trans (va_up_ne _ _ (by omega))).trans hgt
    have htk_1 : g_1 tk = .inr (5, [.ref (ad tkt), .int (nI (tlen)), .int (nI (trd)), .int (nI (0)), .int (nI (tpl)), .int vl]) := ((congrFun eg_1 _).trans (va_up_ne _ _ (by omega))).trans hgk
    have hfr_1 : ∀ j : Nat, j ≠ b → g_1 j = g j := fun j n0 => ((congrFun eg_1 _).trans (va_up_ne _ _ n0)).trans (hfr j )
    refine lv_aload_n hx hb dX6_takenItem_52 rfl (lv_at hl 0 rfl) ?_
    refine lv_iconst (v := nI (1)) hx hb dX6_takenItem_53 (by decide) ?_
    refine mp S hK hP hI hS (by omega) hb_1 fd_X6_63 rfl rfl (Nat.le_of_ble_eq_true rfl) dX6_takenItem_54 (fun g_2 H locs eg_2 hP hS => ?_)
    have hb_2 : g_2 b = .inr (6, [.ref (ad (b + 1)), .ref (ad (b + 3)), .ref (ad (b + 4)), .int (nI (pOp ps)), .int (nI (1)), .int (nI (tv)), .int (nI (pRd ps)), .int (nI (pEm ps)), .int (nI (pOv ps)), .int (nI (ft)), .int (nI (fp))]) := by rw [eg_2, va_up_self]; exact rfl
    have hb___1_2 : g_2 (b + 1) = .inr (0, [.ref (ad (b + 2)), .int (nI (pLen ps))]) := ((congrFun eg_2 _).trans (va_up_ne _ _ (by omega))).trans hb___1_1
    have hb___2_2 : g_2 (b + 2) = .inl (cy 0, 200, .inl (fun x9 => nI ((pB ps) x9))) := ((congrFun eg_2 _).trans (va_up_ne _ _ (by omega))).trans hb___2_1
    have hb___3_2 : g_2 (b + 3) = .inl (cy 1, 4, .inl (fun x9 => nI ((pSt ps) x9))) := ((congrFun eg_2 _).trans (va_up_ne _ _ (by omega))).trans hb___3_1
    have hb___4_2 : g_2 (b + 4) = .inl (cy 1, 4, .inl (fun x9 => nI ((pTm ps) x9))) := ((congrFun eg_2 _).trans (va_up_ne _ _ (by omega))).trans hb___4_1
    have htk_2 : g_2 tk = .inr (5, [.ref (ad tkt), .int (nI (tlen)), .int (nI (trd)), .int (nI (0)), .int (nI (tpl)), .int vl]) := ((congrFun eg_2 _).trans (va_up_ne _ _ (by omega))).trans htk_1
    have hfr_2 : ∀ j : Nat, j ≠ b → g_2 j = g j := fun j n0 => ((congrFun eg_2 _).trans (va_up_ne _ _ n0)).trans (hfr_1 j n0)
    refine lv_iconst (v := nI (0)) hx hb dX6_takenItem_57 (by decide) ?_
    have hR : tkItem 0 tv ps = _ := rfl
    exact rMi S hr hlk hP hS ⟨rfl, hb_2, hb___1_2, hb___2_2, hb___3_2, hb___4_2, (fun j n0 => hfr_2 j (by omega))⟩ dX6_takenItem_58
  · skip
    refine lv_tableIn (tgt := 59) hx hb dX6_takenItem_4 (by decide) (by decide) rfl (by decide) ?_
    have htv := (hvl (by omega)).2
    refine lv_aload_n hx hb dX6_takenItem_59 rfl (lv_at hl 0 rfl) ?_
    refine lv_aload_n hx hb dX6_takenItem_60 rfl (lv_at hl 1 rfl) ?_
    refine mg S hK hP htk hgk fd_X6_79 rfl dX6_takenItem_61 ?_
    refine tpi ((hvl (by omega)).1) ?_
    refine mp S hK hP hI hS (by omega) hg fd_X6_85 rfl rfl (Nat.le_of_ble_eq_true rfl) dX6_takenItem_64 (fun g_3 H locs eg_3 hP hS => ?_)
    have hb_3 : g_3 b = .inr (6, [.ref (ad (b + 1)), .ref (ad (b + 3)), .ref (ad (b + 4)), .int (nI (pOp ps)), .int (nI (pWt ps)), .int (nI (pLt ps)), .int (nI (tv)), .int (nI (pEm ps)), .int (nI (pOv ps)), .int (nI (ft)), .int (nI (fp))]) := by rw [eg_3, va_up_self]; exact rfl
    have hb___1_3 : g_3 (b + 1) = .inr (0, [.ref (ad (b + 2)), .int (nI (pLen ps))]) := ((congrFun eg_3 _).trans (va_up_ne _ _ (by omega))).trans hgd
    have hb___2_3 : g_3 (b + 2) = .inl (cy 0, 200, .inl (fun x9 => nI ((pB ps) x9))) := ((congrFun eg_3 _).trans (va_up_ne _ _ (by omega))).trans hgb
    have hb___3_3 : g_3 (b + 3) = .inl (cy 1, 4, .inl (fun x9 => nI ((pSt ps) x9))) := ((congrFun eg_3 _).trans (va_up_ne _ _ (by omega))).trans hgs
    have hb___4_3 : g_3 (b + 4) = .inl (cy 1, 4, .inl (fun x9 => nI ((pTm ps) x9))) := ((congrFun eg_3 _).trans (va_up_ne _ _ (by omega))).trans hgt
    have htk_3 : g_3 tk = .inr (5, [.ref (ad tkt), .int (nI (tlen)), .int (nI (trd)), .int (nI (1)), .int (nI (tpl)), .int vl]) := ((congrFun eg_3 _).trans (va_up_ne _ _ (by omega))).trans hgk
    have hfr_3 : ∀ j : Nat, j ≠ b → g_3 j = g j := fun j n0 => ((congrFun eg_3 _).trans (va_up_ne _ _ n0)).trans (hfr j )
    refine lv_aload_n hx hb dX6_takenItem_67 rfl (lv_at hl 0 rfl) ?_
    refine lv_iconst (v := nI (2)) hx hb dX6_takenItem_68 (by decide) ?_
    refine mp S hK hP hI hS (by omega) hb_3 fd_X6_63 rfl rfl (Nat.le_of_ble_eq_true rfl) dX6_takenItem_69 (fun g_4 H locs eg_4 hP hS => ?_)
    have hb_4 : g_4 b = .inr (6, [.ref (ad (b + 1)), .ref (ad (b + 3)), .ref (ad (b + 4)), .int (nI (pOp ps)), .int (nI (2)), .int (nI (pLt ps)), .int (nI (tv)), .int (nI (pEm ps)), .int (nI (pOv ps)), .int (nI (ft)), .int (nI (fp))]) := by rw [eg_4, va_up_self]; exact rfl
    have hb___1_4 : g_4 (b + 1) = .inr (0, [.ref (ad (b + 2)), .int (nI (pLen ps))]) := ((congrFun eg_4 _).trans (va_up_ne _ _ (by omega))).trans hb___1_3
    have hb___2_4 : g_4 (b + 2) = .inl (cy 0, 200, .inl (fun x9 => nI ((pB ps) x9))) := ((congrFun eg_4 _).trans (va_up_ne _ _ (by omega))).trans hb___2_3
    have hb___3_4 : g_4 (b + 3) = .inl (cy 1, 4, .inl (fun x9 => nI ((pSt ps) x9))) := ((congrFun eg_4 _).trans (va_up_ne _ _ (by omega))).trans hb___3_3
    have hb___4_4 : g_4 (b + 4) = .inl (cy 1, 4, .inl (fun x9 => nI ((pTm ps) x9))) := ((congrFun eg_4 _).trans (va_up_ne _ _ (by omega))).trans hb___4_3
    have htk_4 : g_4 tk = .inr (5, [.ref (ad tkt), .int (nI (tlen)), .int (nI (trd)), .int (nI (1)), .int (nI (tpl)), .int vl]) := ((congrFun eg_4 _).trans (va_up_ne _ _ (by omega))).trans htk_3
    have hfr_4 : ∀ j : Nat, j ≠ b → g_4 j = g j := fun j n0 => ((congrFun eg_4 _).trans (va_up_ne _ _ n0)).trans (hfr_3 j n0)
    refine lv_aload_n hx hb dX6_takenItem_72 rfl (lv_at hl 0 rfl) ?_
    refine mg S hK hP (by omega) hb_4 fd_X6_85 rfl dX6_takenItem_73 ?_
    refine lv_iconst (v := nI (1)) hx hb dX6_takenItem_76 (by decide) ?_
    refine lv_icmp_lt (tgt := 89) hx hb dX6_takenItem_77 (by decide) (fun c_77 => ?_) (fun c_77 => ?_)
    · skip
      have c_77 := (nI_ltI (by omega) (by omega)).mp c_77
      refine lv_iconst (v := nI (3)) hx hb dX6_takenItem_89 (by decide) ?_
      refine lv_goto (tgt := 94) hx hb dX6_takenItem_90 (by decide) ?_
      have hR : tkItem 1 tv ps = _ := rfl
      exact rMi S hr hlk hP hS ⟨(by show nI _ = nI (if tv < 1 ∨ 20 < tv then 3 else 0); first | rw [if_neg (by omega)] | rw [if_pos (by omega)]), hb_4, hb___1_4, hb___2_4, hb___3_4, hb___4_4, (fun j n0 => hfr_4 j (by omega))⟩ dX6_takenItem_94
    · skip
      have c_77 := (not_congr (nI_ltI (by omega) (by omega))).mp c_77
      refine lv_aload_n hx hb dX6_takenItem_80 rfl (lv_at hl 0 rfl) ?_
      refine mg S hK hP (by omega) hb_4 fd_X6_85 rfl dX6_takenItem_81 ?_
      refine lv_bipush (v := nI (20)) hx hb dX6_takenItem_84 (by decide) ?_
      refine lv_icmp_le (tgt := 93) hx hb dX6_takenItem_86 (by decide) (fun c_86 => ?_) (fun c_86 => ?_)
      · skip
        have c_86 := (nI_leI (by omega) (by omega)).mp c_86
        refine lv_iconst (v := nI (0)) hx hb dX6_takenItem_93 (by decide) ?_
        have hR : tkItem 1 tv ps = _ := rfl
        exact rMi S hr hlk hP hS ⟨(by show nI _ = nI (if tv < 1 ∨ 20 < tv then 3 else 0); first | rw [if_neg (by omega)] | rw [if_pos (by omega)]), hb_4, hb___1_4, hb___2_4, hb___3_4, hb___4_4, (fun j n0 => hfr_4 j (by omega))⟩ dX6_takenItem_94
      · skip
        have c_86 := (not_congr (nI_leI (by omega) (by omega))).mp c_86
        refine lv_iconst (v := nI (3)) hx hb dX6_takenItem_89 (by decide) ?_
        refine lv_goto (tgt := 94) hx hb dX6_takenItem_90 (by decide) ?_
        have hR : tkItem 1 tv ps = _ := rfl
        exact rMi S hr hlk hP hS ⟨(by show nI _ = nI (if tv < 1 ∨ 20 < tv then 3 else 0); first | rw [if_neg (by omega)] | rw [if_pos (by omega)]), hb_4, hb___1_4, hb___2_4, hb___3_4, hb___4_4, (fun j n0 => hfr_4 j (by omega))⟩ dX6_takenItem_94
  · skip
    refine lv_tableIn (tgt := 147) hx hb dX6_takenItem_4 (by decide) (by decide) rfl (by decide) ?_
    refine lv_iconst (v := nI (2)) hx hb dX6_takenItem_147 (by decide) ?_
    exact rMi S hr hlk hP hS ⟨rfl, hg, hgd, hgb, hgs, hgt, (fun j n0 => hfr j )⟩ dX6_takenItem_148
  · skip
    refine lv_tableIn (tgt := 104) hx hb dX6_takenItem_4 (by decide) (by decide) rfl (by decide) ?_
    refine lv_aload_n hx hb dX6_takenItem_104 rfl (lv_at hl 0 rfl) ?_
    refine mg S hK hP (by omega) hg fd_X6_66 rfl dX6_takenItem_105 ?_
    refine lv_if_ne (tgt := 118) hx hb dX6_takenItem_108 (by decide) (fun c_108 => ?_) (fun c_108 => ?_)
    · skip
      have c_108 := (not_congr (z_eq (by omega))).mp c_108
      refine lv_iconst (v := nI (2)) hx hb dX6_takenItem_118 (by decide) ?_
      refine lv_goto (tgt := 126) hx hb dX6_takenItem_119 (by decide) ?_
      exact rMi S hr hlk hP hS ⟨(by show _ = nI (if pEm ps ≠ 0 ∨ pOp ps = 0 then (2, ps) else (0, clP ps)).1; first | (rw [if_pos (by omega)]; done) | (rw [if_neg (by omega)]; done)), (by have e3 : tkItem 3 tv ps = (if pEm ps ≠ 0 ∨ pOp ps = 0 then (2, ps) else (0, clP ps)) := rfl; rw [e3]; first | (rw [if_pos (by omega)]; exact hg) | (rw [if_neg (by omega)]; exact hg)), (by have e3 : tkItem 3 tv ps = (if pEm ps ≠ 0 ∨ pOp ps = 0 then (2, ps) else (0, clP ps)) := rfl; rw [e3]; first | (rw [if_pos (by omega)]; exact hgd) | (rw [if_neg (by omega)]; exact hgd)), (by have e3 : tkItem 3 tv ps = (if pEm ps ≠ 0 ∨ pOp ps = 0 then (2, ps) else (0, clP ps)) := rfl; rw [e3]; first | (rw [if_pos (by omega)]; exact hgb) | (rw [if_neg (by omega)]; exact hgb)), (by have e3 : tkItem 3 tv ps = (if pEm ps ≠ 0 ∨ pOp ps = 0 then (2, ps) else (0, clP ps)) := rfl; rw [e3]; first | (rw [if_pos (by omega)]; exact hgs) | (rw [if_neg (by omega)]; exact hgs)), (by have e3 : tkItem 3 tv ps = (if pEm ps ≠ 0 ∨ pOp ps = 0 then (2, ps) else (0, clP ps)) := rfl; rw [e3]; first | (rw [if_pos (by omega)]; exact hgt) | (rw [if_neg (by omega)]; exact hgt)), (fun j n0 => hfr j )⟩ dX6_takenItem_126
    · skip
      have c_108 := (z_eq (by omega)).mp c_108
      refine lv_aload_n hx hb dX6_takenItem_111 rfl (lv_at hl 0 rfl) ?_
      refine mg S hK hP (by omega) hg fd_X6_60 rfl dX6_takenItem_112 ?_
      refine lv_if_gt (tgt := 122) hx hb dX6_takenItem_115 (by decide) (fun c_115 => ?_) (fun c_115 => ?_)
      · skip
        have c_115 := (z_gt (by omega)).mp c_115
        refine lv_aload_n hx hb dX6_takenItem_122 rfl (lv_at hl 0 rfl) ?_
        refine kMi (As := []) (rest := []) S hK hP hS (fun _ h => h) (c_X6_closed l D cy ad N g hinj b (by omega) ps ft fp hg hgd hgb hgs hgt hps (by omega)) cv_X6_92 (by omega) hg ⟨_, _, rfl⟩ ⟨rfl, rfl⟩ rfl hl.1 rfl (Nat.le_of_ble_eq_true rfl) ⟨Nat.zero_le _, Nat.zero_le _⟩ dX6_takenItem_123 (fun r_123 g_5 H locs q_5 hP hS => ?_)
        obtain ⟨q_123, hb_5, hb___1_5, hb___2_5, hb___3_5, hb___4_5, f_5⟩ := q_5
        subst q_123
        have htk_5 : g_5 tk = .inr (5, [.ref (ad tkt), .int (nI (tlen)), .int (nI (trd)), .int (nI (3)), .int (nI (tpl)), .int vl]) := (f_5 tk (by omega)).trans hgk
        have hfr_5 : ∀ j : Nat, (j < b ∨ b + 5 ≤ j) → g_5 j = g j := fun j n0 => (f_5 j n0).trans (hfr j )
        exact rMi S hr hlk hP hS ⟨(by show _ = nI (if pEm ps ≠ 0 ∨ pOp ps = 0 then (2, ps) else (0, clP ps)).1; first | (rw [if_pos (by omega)]; done) | (rw [if_neg (by omega)]; done)), (by have e3 : tkItem 3 tv ps = (if pEm ps ≠ 0 ∨ pOp ps = 0 then (2, ps) else (0, clP ps)) := rfl; rw [e3]; first | (rw [if_pos (by omega)]; exact hb_5) | (rw [if_neg (by omega)]; exact hb_5)), (by have e3 : tkItem 3 tv ps = (if pEm ps ≠ 0 ∨ pOp ps = 0 then (2, ps) else (0, clP ps)) := rfl; rw [e3]; first | (rw [if_pos (by omega)]; exact hb___1_5) | (rw [if_neg (by omega)]; exact hb___1_5)), (by have e3 : tkItem 3 tv ps = (if pEm ps ≠ 0 ∨ pOp ps = 0 then (2, ps) else (0, clP ps)) := rfl; rw [e3]; first | (rw [if_pos (by omega)]; exact hb___2_5) | (rw [if_neg (by omega)]; exact hb___2_5)), (by have e3 : tkItem 3 tv ps = (if pEm ps ≠ 0 ∨ pOp ps = 0 then (2, ps) else (0, clP ps)) := rfl; rw [e3]; first | (rw [if_pos (by omega)]; exact hb___3_5) | (rw [if_neg (by omega)]; exact hb___3_5)), (by have e3 : tkItem 3 tv ps = (if pEm ps ≠ 0 ∨ pOp ps = 0 then (2, ps) else (0, clP ps)) := rfl; rw [e3]; first | (rw [if_pos (by omega)]; exact hb___4_5) | (rw [if_neg (by omega)]; exact hb___4_5)), hfr_5⟩ dX6_takenItem_126
      · skip
        have c_115 := (not_congr (z_gt (by omega))).mp c_115
        refine lv_iconst (v := nI (2)) hx hb dX6_takenItem_118 (by decide) ?_
        refine lv_goto (tgt := 126) hx hb dX6_takenItem_119 (by decide) ?_
        exact rMi S hr hlk hP hS ⟨(by show _ = nI (if pEm ps ≠ 0 ∨ pOp ps = 0 then (2, ps) else (0, clP ps)).1; first | (rw [if_pos (by omega)]; done) | (rw [if_neg (by omega)]; done)), (by have e3 : tkItem 3 tv ps = (if pEm ps ≠ 0 ∨ pOp ps = 0 then (2, ps) else (0, clP ps)) := rfl; rw [e3]; first | (rw [if_pos (by omega)]; exact hg) | (rw [if_neg (by omega)]; exact hg)), (by have e3 : tkItem 3 tv ps = (if pEm ps ≠ 0 ∨ pOp ps = 0 then (2, ps) else (0, clP ps)) := rfl; rw [e3]; first | (rw [if_pos (by omega)]; exact hgd) | (rw [if_neg (by omega)]; exact hgd)), (by have e3 : tkItem 3 tv ps = (if pEm ps ≠ 0 ∨ pOp ps = 0 then (2, ps) else (0, clP ps)) := rfl; rw [e3]; first | (rw [if_pos (by omega)]; exact hgb) | (rw [if_neg (by omega)]; exact hgb)), (by have e3 : tkItem 3 tv ps = (if pEm ps ≠ 0 ∨ pOp ps = 0 then (2, ps) else (0, clP ps)) := rfl; rw [e3]; first | (rw [if_pos (by omega)]; exact hgs) | (rw [if_neg (by omega)]; exact hgs)), (by have e3 : tkItem 3 tv ps = (if pEm ps ≠ 0 ∨ pOp ps = 0 then (2, ps) else (0, clP ps)) := rfl; rw [e3]; first | (rw [if_pos (by omega)]; exact hgt) | (rw [if_neg (by omega)]; exact hgt)), (fun j n0 => hfr j )⟩ dX6_takenItem_126
  · skip
    refine lv_tableIn (tgt := 95) hx hb dX6_takenItem_4 (by decide) (by decide) rfl (by decide) ?_
    refine lv_aload_n hx hb dX6_takenItem_95 rfl (lv_at hl 0 rfl) ?_
    refine lv_bipush (v := nI (6)) hx hb dX6_takenItem_96 (by decide) ?_
    refine lv_iconst (v := nI (0)) hx hb dX6_takenItem_98 (by decide) ?_
    refine kMv (As := [.int (nI (6)), .int (nI (0))]) (rest := []) S hK hP hS (fun _ h => h) (c_X6_write l D cy ad N g hinj b (by omega) ps ft fp hg hgd hgb hgs hgt hps 6 0 (by omega)) cv_X6_88 (by omega) hg ⟨_, _, rfl⟩ ⟨rfl, rfl⟩ rfl hl.1 rfl (Nat.le_of_ble_eq_true rfl) ⟨Nat.zero_le _, Nat.zero_le _⟩ dX6_takenItem_99 (fun g_6 H locs q_6 hP hS => ?_)
    obtain ⟨hb_6, hb___1_6, hb___2_6, hb___3_6, hb___4_6, f_6⟩ := q_6
    have htk_6 : g_6 tk = .inr (5, [.ref (ad tkt), .int (nI (tlen)), .int (nI (trd)), .int (nI (4)), .int (nI (tpl)), .int vl]) := (f_6 tk (by omega)).trans hgk
    have hfr_6 : ∀ j : Nat, (j < b ∨ b + 5 ≤ j) → g_6 j = g j := fun j n0 => (f_6 j n0).trans (hfr j )
    refine lv_iconst (v := nI (0)) hx hb dX6_takenItem_102 (by decide) ?_
    have hR : tkItem 4 tv ps = _ := rfl
    exact rMi S hr hlk hP hS ⟨rfl, hb_6, hb___1_6, hb___2_6, hb___3_6, hb___4_6, hfr_6⟩ dX6_takenItem_103
  · skip
    refine lv_tableIn (tgt := 127) hx hb dX6_takenItem_4 (by decide) (by decide) rfl (by decide) ?_
    refine lv_aload_n hx hb dX6_takenItem_127 rfl (lv_at hl 0 rfl) ?_
    refine mg S hK hP (by omega) hg fd_X6_66 rfl dX6_takenItem_128 ?_
    refine lv_if_ne (tgt := 141) hx hb dX6_takenItem_131 (by decide) (fun c_131 => ?_) (fun c_131 => ?_)
    · skip
      have c_131 := (not_congr (z_eq (by omega))).mp c_131
      refine lv_iconst (v := nI (2)) hx hb dX6_takenItem_141 (by decide) ?_
      refine lv_goto (tgt := 146) hx hb dX6_takenItem_142 (by decide) ?_
      have hR : tkItem 5 tv ps = _ := rfl
      exact rMi S hr hlk hP hS ⟨(by show _ = nI (if pEm ps ≠ 0 ∨ pOp ps ≠ 0 then 2 else 0); first | (rw [if_pos (by omega)]; done) | (rw [if_neg (by omega)]; done)), hg, hgd, hgb, hgs, hgt, (fun j n0 => hfr j )⟩ dX6_takenItem_146
    · skip
      have c_131 := (z_eq (by omega)).mp c_131
      refine lv_aload_n hx hb dX6_takenItem_134 rfl (lv_at hl 0 rfl) ?_
      refine mg S hK hP (by omega) hg fd_X6_60 rfl dX6_takenItem_135 ?_
      refine lv_if_le (tgt := 145) hx hb dX6_takenItem_138 (by decide) (fun c_138 => ?_) (fun c_138 => ?_)
      · skip
        have c_138 := (z_le (by omega)).mp c_138
        refine lv_iconst (v := nI (0)) hx hb dX6_takenItem_145 (by decide) ?_
        have hR : tkItem 5 tv ps = _ := rfl
        exact rMi S hr hlk hP hS ⟨(by show _ = nI (if pEm ps ≠ 0 ∨ pOp ps ≠ 0 then 2 else 0); first | (rw [if_pos (by omega)]; done) | (rw [if_neg (by omega)]; done)), hg, hgd, hgb, hgs, hgt, (fun j n0 => hfr j )⟩ dX6_takenItem_146
      · skip
        have c_138 := (not_congr (z_le (by omega))).mp c_138
        refine lv_iconst (v := nI (2)) hx hb dX6_takenItem_141 (by decide) ?_
        refine lv_goto (tgt := 146) hx hb dX6_takenItem_142 (by decide) ?_
        have hR : tkItem 5 tv ps = _ := rfl
        exact rMi S hr hlk hP hS ⟨(by show _ = nI (if pEm ps ≠ 0 ∨ pOp ps ≠ 0 then 2 else 0); first | (rw [if_pos (by omega)]; done) | (rw [if_neg (by omega)]; done)), hg, hgd, hgb, hgs, hgt, (fun j n0 => hfr j )⟩ dX6_takenItem_146
  · skip
    refine lv_tableOut (tgt := 147) hx hb dX6_takenItem_4 (by decide) (by decide) ?_
    refine lv_iconst (v := nI (2)) hx hb dX6_takenItem_147 (by decide) ?_
    exact rMi S hr hlk hP hS ⟨rfl, hg, hgd, hgb, hgs, hgt, (fun j n0 => hfr j )⟩ dX6_takenItem_148
set_option maxHeartbeats 4000000 in
set_option maxRecDepth 100000 in
theorem c_X6_takenOpen (l : Launch) (D : va_G) (cy : Nat → ClassId) (ad : Nat → Nat) (N : Nat) (g : Nat → va_E) (hinj : ∀ i j : Nat, i < N → j < N → ad i = ad j → i = j) (b : Nat) (hbN : b + 5 ≤ N) (ps : PS) (ft : Nat) (fp : Nat) (hg : g b = .inr (6, [.ref (ad (b + 1)), .ref (ad (b + 3)), .ref (ad (b + 4)), .int (nI (pOp ps)), .int (nI (pWt ps)), .int (nI (pLt ps)), .int (nI (pRd ps)), .int (nI (pEm ps)), .int (nI (pOv ps)), .int (nI (ft)), .int (nI (fp))])) (hgd : g (b + 1) = .inr (0, [.ref (ad (b + 2)), .int (nI (pLen ps))])) (hgb : g (b + 2) = .inl (cy 0, 200, .inl (fun x9 => nI ((pB ps) x9)))) (hgs : g (b + 3) = .inl (cy 1, 4, .inl (fun x9 => nI ((pSt ps) x9)))) (hgt : g (b + 4) = .inl (cy 1, 4, .inl (fun x9 => nI ((pTm ps) x9)))) (hps : POK ps) (tk : Nat) (htk : tk < N) (tkt : Nat) (tlen : Nat) (trd : Nat) (kd : Nat) (tpl : Nat) (vl : Int32) (hgk : g tk = .inr (5, [.ref (ad tkt), .int (nI (tlen)), .int (nI (trd)), .int (nI (kd)), .int (nI (tpl)), .int vl])) (htko : tk < b ∨ b + 5 ≤ tk) (tv : Nat) (hkd : kd < 7) (hvl : kd < 2 → vl = nI tv ∧ tv < 3000) (hv7 : kd = 0 → tv < 7) : Met l yX6_takenOpen (WS yX6_takenOpen cX6_takenOpen 2 (some .int)) (rmF 0 0) (PP [.ref (ad b), .ref (ad tk)] D cy ad N g) (QI (fun r g1 => (r = nI ((tkOpen kd ps).1)) ∧ g1 b = .inr (6, [.ref (ad (b + 1)), .ref (ad (b + 3)), .ref (ad (b + 4)), .int (nI (pOp ((tkOpen kd ps).2))), .int (nI (pWt ((tkOpen kd ps).2))), .int (nI (pLt ((tkOpen kd ps).2))), .int (nI (pRd ((tkOpen kd ps).2))), .int (nI (pEm ((tkOpen kd ps).2))), .int (nI (pOv ((tkOpen kd ps).2))), .int (nI (ft)), .int (nI (fp))]) ∧ g1 (b + 1) = .inr (0, [.ref (ad (b + 2)), .int (nI (pLen ((tkOpen kd ps).2)))]) ∧ g1 (b + 2) = .inl (cy 0, 200, .inl (fun x9 => nI ((pB ((tkOpen kd ps).2)) x9))) ∧ g1 (b + 3) = .inl (cy 1, 4, .inl (fun x9 => nI ((pSt ((tkOpen kd ps).2)) x9))) ∧ g1 (b + 4) = .inl (cy 1, 4, .inl (fun x9 => nI ((pTm ((tkOpen kd ps).2)) x9))) ∧ (∀ j, (j < b ∨ b + 5 ≤ j) → g1 j = g j)) D ad N) 0 0 (AA ad N) := by
  refine mentry (by decide) (Nat.le_of_ble_eq_true rfl) (fun p e s m below meth c ls S hr hlk hnm hP hK hl => ?_)
  have S : CallFix p m c cX6_takenOpen 2 s _ wsL_law RX6 := S
  have hx := S.1
  have hb := S.2.1
  have hl : lv_has ls 2 [(0, .ref (ad b)), (1, .ref (ad tk))] := hl
  have hI : MD (AA ad N) ad N := MD.in hinj
  have hS : va_S (AA ad N) s.heap s.heap [] := va_S.rf
  have hfr : ∀ j : Nat, g j = g j := fun _ => rfl
  have hL := hps.1.1
  have hB := hps.1.2
  have hOp := hps.2.1.1
  have hWt := hps.2.1.2.1
  have hLt := hps.2.1.2.2.1
  have hRd := hps.2.1.2.2.2.1
  have hEm := hps.2.1.2.2.2.2.1
  have hOv := hps.2.1.2.2.2.2.2
  refine lv_aload_n hx hb dX6_takenOpen_0 rfl (lv_at hl 1 rfl) ?_
  refine mg S hK hP htk hgk fd_X6_50 rfl dX6_takenOpen_1 ?_
  refine lv_iconst (v := nI (2)) hx hb dX6_takenOpen_4 (by decide) ?_
  refine lv_icmp_eq (tgt := 10) hx hb dX6_takenOpen_5 (by decide) (fun c_5 => ?_) (fun c_5 => ?_)
  · skip
    have c_5 := (nI_eq (by omega) (by omega)).mp c_5
    refine lv_aload_n hx hb dX6_takenOpen_10 rfl (lv_at hl 0 rfl) ?_
    refine mg S hK hP (by omega) hg fd_X6_60 rfl dX6_takenOpen_11 ?_
    refine lv_if_lt (tgt := 41) hx hb dX6_takenOpen_14 (by decide) (fun c_14 => ?_) (fun c_14 => ?_)
    · skip
      have c_14 := (z_lt (by omega)).mp c_14
      exact c_14.elim
    · skip
      have c_14 := (not_congr (z_lt (by omega))).mp c_14
      refine lv_aload_n hx hb dX6_takenOpen_17 rfl (lv_at hl 0 rfl) ?_
      refine mg S hK hP (by omega) hg fd_X6_60 rfl dX6_takenOpen_18 ?_
      refine lv_aload_n hx hb dX6_takenOpen_21 rfl (lv_at hl 0 rfl) ?_
      refine mg S hK hP (by omega) hg fd_X6_18 rfl dX6_takenOpen_22 ?_
      refine malen S hK hP (by omega) hgs rfl (v := nI 4) rfl dX6_takenOpen_25 ?_
      refine lv_icmp_ge (tgt := 41) hx hb dX6_takenOpen_26 (by decide) (fun c_26 => ?_) (fun c_26 => ?_)
      · skip
        have c_26 := (nI_leI (by omega) (by omega)).mp c_26
        refine lv_iconst (v := nI (4)) hx hb dX6_takenOpen_41 (by decide) ?_
        have hR : tkOpen kd ps = (4, ps) := by unfold tkOpen; rw [if_pos c_5, if_neg (by omega)]
        exact rMi S hr hlk hP hS ⟨(by rw [hR]), (by first | exact hg | (rw [hR]; exact hg)), (by first | exact hgd | (rw [hR]; exact hgd)), (by first | exact hgb | (rw [hR]; exact hgb)), (by first | exact hgs | (rw [hR]; exact hgs)), (by first | exact hgt | (rw [hR]; exact hgt)), (fun j n0 => hfr j )⟩ dX6_takenOpen_42
      · skip
        have c_26 := (not_congr (nI_leI (by omega) (by omega))).mp c_26
        refine lv_aload_n hx hb dX6_takenOpen_29 rfl (lv_at hl 0 rfl) ?_
        refine mg S hK hP (by omega) hg fd_X6_60 rfl dX6_takenOpen_30 ?_
        refine lv_aload_n hx hb dX6_takenOpen_33 rfl (lv_at hl 0 rfl) ?_
        refine mg S hK hP (by omega) hg fd_X6_22 rfl dX6_takenOpen_34 ?_
        refine malen S hK hP (by omega) hgt rfl (v := nI 4) rfl dX6_takenOpen_37 ?_
        refine lv_icmp_lt (tgt := 43) hx hb dX6_takenOpen_38 (by decide) (fun c_38 => ?_) (fun c_38 => ?_)
        · skip
          have c_38 := (nI_ltI (by omega) (by omega)).mp c_38
          refine lv_aload_n hx hb dX6_takenOpen_43 rfl (lv_at hl 0 rfl) ?_
          refine mg S hK hP (by omega) hg fd_X6_18 rfl dX6_takenOpen_44 ?_
          refine lv_aload_n hx hb dX6_takenOpen_47 rfl (lv_at hl 0 rfl) ?_
          refine mg S hK hP (by omega) hg fd_X6_60 rfl dX6_takenOpen_48 ?_
          refine lv_aload_n hx hb dX6_takenOpen_51 rfl (lv_at hl 0 rfl) ?_
          refine mg S hK hP (by omega) hg fd_X6_12 rfl dX6_takenOpen_52 ?_
          refine mg S hK hP (by omega) hgd fd_X6_57 rfl dX6_takenOpen_55 ?_
          refine mias S hK hP hI hS (by omega) hgs (vp_in_nI (by omega) (by omega)) dX6_takenOpen_58 (fun g_1 H locs eg_1 hP hS => ?_)
          have hb___3_1 : g_1 (b + 3) = .inl (cy 1, 4, .inl (fun x9 => nI ((va_up (pSt ps) (pOp ps) (pLen ps)) x9))) := by rw [eg_1, va_up_self]; exact (arrN_up (by omega))
          have hb_1 : g_1 b = .inr (6, [.ref (ad (b + 1)), .ref (ad (b + 3)), .ref (ad (b + 4)), .int (nI (pOp ps)), .int (nI (pWt ps)), .int (nI (pLt ps)), .int (nI (pRd ps)), .int (nI (pEm ps)), .int (nI (pOv ps)), .int (nI (ft)), .int (nI (fp))]) := ((congrFun eg_1 _).trans (va_up_ne _ _ (by omega))).trans hg
          have hb___1_1 : g_1 (b + 1) = .inr (0, [.ref (ad (b + 2)), .int (nI (pLen ps))]) := ((congrFun eg_1 _).trans (va_up_ne _ _ (by omega))).trans hgd
          have hb___2_1 : g_1 (b + 2) = .inl (cy 0, 200, .inl (fun x9 => nI ((pB ps) x9))) := ((congrFun eg_1 _).trans (va_up_ne _ _ (by omega))).trans hgb
          have hb___4_1 : g_1 (b + 4) = .inl (cy 1, 4, .inl (fun x9 => nI ((pTm ps) x9))) := ((congrFun eg_1 _).trans (va_up_ne _ _ (by omega))).trans hgt
          have htk_1 : g_1 tk = .inr (5, [.ref (ad tkt), .int (nI (tlen)), .int (nI (trd)), .int (nI (kd)), .int (nI (tpl)), .int vl]) := ((congrFun eg_1 _).trans (va_up_ne _ _ (by omega))).trans hgk
          have hfr_1 : ∀ j : Nat, j ≠ (b + 3) → g_1 j = g j := fun j n0 => ((congrFun eg_1 _).trans (va_up_ne _ _ n0)).trans (hfr j )
          refine lv_aload_n hx hb dX6_takenOpen_59 rfl (lv_at hl 0 rfl) ?_
          refine mg S hK hP (by omega) hb_1 fd_X6_22 rfl dX6_takenOpen_60 ?_
          refine lv_aload_n hx hb dX6_takenOpen_63 rfl (lv_at hl 0 rfl) ?_
          refine mg S hK hP (by omega) hb_1 fd_X6_60 rfl dX6_takenOpen_64 ?_
          refine lv_aload_n hx hb dX6_takenOpen_67 rfl (lv_at hl 0 rfl) ?_
          refine mg S hK hP (by omega) hb_1 fd_X6_85 rfl dX6_takenOpen_68 ?_
          refine mias S hK hP hI hS (by omega) hb___4_1 (vp_in_nI (by omega) (by omega)) dX6_takenOpen_71 (fun g_2 H locs eg_2 hP hS => ?_)
          have hb___4_2 : g_2 (b + 4) = .inl (cy 1, 4, .inl (fun x9 => nI ((va_up (pTm ps) (pOp ps) (pRd ps)) x9))) := by rw [eg_2, va_up_self]; exact (arrN_up (by omega))
          have hb_2 : g_2 b = .inr (6, [.ref (ad (b + 1)), .ref (ad (b + 3)), .ref (ad (b + 4)), .int (nI (pOp ps)), .int (nI (pWt ps)), .int (nI (pLt ps)), .int (nI (pRd ps)), .int (nI (pEm ps)), .int (nI (pOv ps)), .int (nI (ft)), .int (nI (fp))]) := ((congrFun eg_2 _).trans (va_up_ne _ _ (by omega))).trans hb_1
          have hb___1_2 : g_2 (b + 1) = .inr (0, [.ref (ad (b + 2)), .int (nI (pLen ps))]) := ((congrFun eg_2 _).trans (va_up_ne _ _ (by omega))).trans hb___1_1
          have hb___2_2 : g_2 (b + 2) = .inl (cy 0, 200, .inl (fun x9 => nI ((pB ps) x9))) := ((congrFun eg_2 _).trans (va_up_ne _ _ (by omega))).trans hb___2_1
          have hb___3_2 : g_2 (b + 3) = .inl (cy 1, 4, .inl (fun x9 => nI ((va_up (pSt ps) (pOp ps) (pLen ps)) x9))) := ((congrFun eg_2 _).trans (va_up_ne _ _ (by omega))).trans hb___3_1
          have htk_2 : g_2 tk = .inr (5, [.ref (ad tkt), .int (nI (tlen)), .int (nI (trd)), .int (nI (kd)), .int (nI (tpl)), .int vl]) := ((congrFun eg_2 _).trans (va_up_ne _ _ (by omega))).trans htk_1
          have hfr_2 : ∀ j : Nat, j ≠ (b + 3) → j ≠ (b + 4) → g_2 j = g j := fun j n0 n1 => ((congrFun eg_2 _).trans (va_up_ne _ _ n1)).trans (hfr_1 j n0)
          refine lv_aload_n hx hb dX6_takenOpen_72 rfl (lv_at hl 0 rfl) ?_
          refine lv_dup hx hb dX6_takenOpen_73 rfl ?_
          refine mg S hK hP (by omega) hb_2 fd_X6_60 rfl dX6_takenOpen_74 ?_
          refine lv_iconst (v := nI (1)) hx hb dX6_takenOpen_77 (by decide) ?_
          refine lv_iadd hx hb dX6_takenOpen_78 ?_
          refine tpi (nI_add (pOp ps) 1) ?_
          refine mp S hK hP hI hS (by omega) hb_2 fd_X6_60 rfl rfl (Nat.le_of_ble_eq_true rfl) dX6_takenOpen_79 (fun g_3 H locs eg_3 hP hS => ?_)
          have hb_3 : g_3 b = .inr (6, [.ref (ad (b + 1)), .ref (ad (b + 3)), .ref (ad (b + 4)), .int (nI (pOp ps + 1)), .int (nI (pWt ps)), .int (nI (pLt ps)), .int (nI (pRd ps)), .int (nI (pEm ps)), .int (nI (pOv ps)), .int (nI (ft)), .int (nI (fp))]) := by rw [eg_3, va_up_self]; exact rfl
          have hb___1_3 : g_3 (b + 1) = .inr (0, [.ref (ad (b + 2)), .int (nI (pLen ps))]) := ((congrFun eg_3 _).trans (va_up_ne _ _ (by omega))).trans hb___1_2
          have hb___2_3 : g_3 (b + 2) = .inl (cy 0, 200, .inl (fun x9 => nI ((pB ps) x9))) := ((congrFun eg_3 _).trans (va_up_ne _ _ (by omega))).trans hb___2_2
          have hb___3_3 : g_3 (b + 3) = .inl (cy 1, 4, .inl (fun x9 => nI ((va_up (pSt ps) (pOp ps) (pLen ps)) x9))) := ((congrFun eg_3 _).trans (va_up_ne _ _ (by omega))).trans hb___3_2
          have hb___4_3 : g_3 (b + 4) = .inl (cy 1, 4, .inl (fun x9 => nI ((va_up (pTm ps) (pOp ps) (pRd ps)) x9))) := ((congrFun eg_3 _).trans (va_up_ne _ _ (by omega))).trans hb___4_2
          have htk_3 : g_3 tk = .inr (5, [.ref (ad tkt), .int (nI (tlen)), .int (nI (trd)), .int (nI (kd)), .int (nI (tpl)), .int vl]) := ((congrFun eg_3 _).trans (va_up_ne _ _ (by omega))).trans htk_2
          have hfr_3 : ∀ j : Nat, j ≠ (b + 3) → j ≠ (b + 4) → j ≠ b → g_3 j = g j := fun j n0 n1 n2 => ((congrFun eg_3 _).trans (va_up_ne _ _ n2)).trans (hfr_2 j n0 n1)
          refine lv_aload_n hx hb dX6_takenOpen_82 rfl (lv_at hl 0 rfl) ?_
          refine lv_iconst (v := nI (1)) hx hb dX6_takenOpen_83 (by decide) ?_
          refine mp S hK hP hI hS (by omega) hb_3 fd_X6_66 (nz_01 (by first | exact Or.inl rfl | exact Or.inr rfl)) (fz_01 (by first | exact Or.inl rfl | exact Or.inr rfl)) (Nat.le_of_ble_eq_true rfl) dX6_takenOpen_84 (fun g_4 H locs eg_4 hP hS => ?_)
          have hb_4 : g_4 b = .inr (6, [.ref (ad (b + 1)), .ref (ad (b + 3)), .ref (ad (b + 4)), .int (nI (pOp ps + 1)), .int (nI (pWt ps)), .int (nI (pLt ps)), .int (nI (pRd ps)), .int (nI (1)), .int (nI (pOv ps)), .int (nI (ft)), .int (nI (fp))]) := by rw [eg_4, va_up_self]; exact rfl
          have hb___1_4 : g_4 (b + 1) = .inr (0, [.ref (ad (b + 2)), .int (nI (pLen ps))]) := ((congrFun eg_4 _).trans (va_up_ne _ _ (by omega))).trans hb___1_3
          have hb___2_4 : g_4 (b + 2) = .inl (cy 0, 200, .inl (fun x9 => nI ((pB ps) x9))) := ((congrFun eg_4 _).trans (va_up_ne _ _ (by omega))).trans hb___2_3
          have hb___3_4 : g_4 (b + 3) = .inl (cy 1, 4, .inl (fun x9 => nI ((va_up (pSt ps) (pOp ps) (pLen ps)) x9))) := ((congrFun eg_4 _).trans (va_up_ne _ _ (by omega))).trans hb___3_3
          have hb___4_4 : g_4 (b + 4) = .inl (cy 1, 4, .inl (fun x9 => nI ((va_up (pTm ps) (pOp ps) (pRd ps)) x9))) := ((congrFun eg_4 _).trans (va_up_ne _ _ (by omega))).trans hb___4_3
          have htk_4 : g_4 tk = .inr (5, [.ref (ad tkt), .int (nI (tlen)), .int (nI (trd)), .int (nI (kd)), .int (nI (tpl)), .int vl]) := ((congrFun eg_4 _).trans (va_up_ne _ _ (by omega))).trans htk_3
          have hfr_4 : ∀ j : Nat, j ≠ (b + 3) → j ≠ (b + 4) → j ≠ b → g_4 j = g j := fun j n0 n1 n2 => ((congrFun eg_4 _).trans (va_up_ne _ _ n2)).trans (hfr_3 j n0 n1 n2)
          refine lv_aload_n hx hb dX6_takenOpen_87 rfl (lv_at hl 0 rfl) ?_
          refine lv_iconst (v := nI (0)) hx hb dX6_takenOpen_88 (by decide) ?_
          refine mp S hK hP hI hS (by omega) hb_4 fd_X6_63 rfl rfl (Nat.le_of_ble_eq_true rfl) dX6_takenOpen_89 (fun g_5 H locs eg_5 hP hS => ?_)
          have hb_5 : g_5 b = .inr (6, [.ref (ad (b + 1)), .ref (ad (b + 3)), .ref (ad (b + 4)), .int (nI (pOp ps + 1)), .int (nI (0)), .int (nI (pLt ps)), .int (nI (pRd ps)), .int (nI (1)), .int (nI (pOv ps)), .int (nI (ft)), .int (nI (fp))]) := by rw [eg_5, va_up_self]; exact rfl
          have hb___1_5 : g_5 (b + 1) = .inr (0, [.ref (ad (b + 2)), .int (nI (pLen ps))]) := ((congrFun eg_5 _).trans (va_up_ne _ _ (by omega))).trans hb___1_4
          have hb___2_5 : g_5 (b + 2) = .inl (cy 0, 200, .inl (fun x9 => nI ((pB ps) x9))) := ((congrFun eg_5 _).trans (va_up_ne _ _ (by omega))).trans hb___2_4
          have hb___3_5 : g_5 (b + 3) = .inl (cy 1, 4, .inl (fun x9 => nI ((va_up (pSt ps) (pOp ps) (pLen ps)) x9))) := ((congrFun eg_5 _).trans (va_up_ne _ _ (by omega))).trans hb___3_4
          have hb___4_5 : g_5 (b + 4) = .inl (cy 1, 4, .inl (fun x9 => nI ((va_up (pTm ps) (pOp ps) (pRd ps)) x9))) := ((congrFun eg_5 _).trans (va_up_ne _ _ (by omega))).trans hb___4_4
          have htk_5 : g_5 tk = .inr (5, [.ref (ad tkt), .int (nI (tlen)), .int (nI (trd)), .int (nI (kd)), .int (nI (tpl)), .int vl]) := ((congrFun eg_5 _).trans (va_up_ne _ _ (by omega))).trans htk_4
          have hfr_5 : ∀ j : Nat, j ≠ (b + 3) → j ≠ (b + 4) → j ≠ b → g_5 j = g j := fun j n0 n1 n2 => ((congrFun eg_5 _).trans (va_up_ne _ _ n2)).trans (hfr_4 j n0 n1 n2)
          refine lv_iconst (v := nI (0)) hx hb dX6_takenOpen_92 (by decide) ?_
          have hR : tkOpen kd ps = (0, opP ps) := by unfold tkOpen; rw [if_pos c_5, if_pos (by omega)]
          exact rMi S hr hlk hP hS ⟨(by rw [hR]), (by first | exact hb_5 | (rw [hR]; exact hb_5)), (by first | exact hb___1_5 | (rw [hR]; exact hb___1_5)), (by first | exact hb___2_5 | (rw [hR]; exact hb___2_5)), (by first | exact hb___3_5 | (rw [hR]; exact hb___3_5)), (by first | exact hb___4_5 | (rw [hR]; exact hb___4_5)), (fun j n0 => hfr_5 j (by omega) (by omega) (by omega))⟩ dX6_takenOpen_93
        · skip
          have c_38 := (not_congr (nI_ltI (by omega) (by omega))).mp c_38
          exact absurd c_38 (by omega)
  · skip
    have c_5 := (not_congr (nI_eq (by omega) (by omega))).mp c_5
    refine lv_iconst (v := nI (2)) hx hb dX6_takenOpen_8 (by decide) ?_
    have hR : tkOpen kd ps = (2, ps) := if_neg c_5
    exact rMi S hr hlk hP hS ⟨(by rw [hR]), (by first | exact hg | (rw [hR]; exact hg)), (by first | exact hgd | (rw [hR]; exact hgd)), (by first | exact hgb | (rw [hR]; exact hgb)), (by first | exact hgs | (rw [hR]; exact hgs)), (by first | exact hgt | (rw [hR]; exact hgt)), (fun j n0 => hfr j )⟩ dX6_takenOpen_9
set_option maxHeartbeats 4000000 in
set_option maxRecDepth 100000 in
theorem c_X6_takenNumber (l : Launch) (D : va_G) (cy : Nat → ClassId) (ad : Nat → Nat) (N : Nat) (g : Nat → va_E) (hinj : ∀ i j : Nat, i < N → j < N → ad i = ad j → i = j) (b : Nat) (hbN : b + 5 ≤ N) (ps : PS) (ft : Nat) (fp : Nat) (hg : g b = .inr (6, [.ref (ad (b + 1)), .ref (ad (b + 3)), .ref (ad (b + 4)), .int (nI (pOp ps)), .int (nI (pWt ps)), .int (nI (pLt ps)), .int (nI (pRd ps)), .int (nI (pEm ps)), .int (nI (pOv ps)), .int (nI (ft)), .int (nI (fp))])) (hgd : g (b + 1) = .inr (0, [.ref (ad (b + 2)), .int (nI (pLen ps))])) (hgb : g (b + 2) = .inl (cy 0, 200, .inl (fun x9 => nI ((pB ps) x9)))) (hgs : g (b + 3) = .inl (cy 1, 4, .inl (fun x9 => nI ((pSt ps) x9)))) (hgt : g (b + 4) = .inl (cy 1, 4, .inl (fun x9 => nI ((pTm ps) x9)))) (hps : POK ps) (tk : Nat) (htk : tk < N) (tkt : Nat) (tlen : Nat) (trd : Nat) (kd : Nat) (tpl : Nat) (vl : Int32) (hgk : g tk = .inr (5, [.ref (ad tkt), .int (nI (tlen)), .int (nI (trd)), .int (nI (kd)), .int (nI (tpl)), .int vl])) (htko : tk < b ∨ b + 5 ≤ tk) (tv : Nat) (hkd : kd < 7) (hvl : kd < 2 → vl = nI tv ∧ tv < 3000) (hv7 : kd = 0 → tv < 7) (fi : Nat) (hfi : fi < N) (ffa : Nat → Option Nat) (hgfa : g fi = .inl (cy 3, 8, .inr (.inr (.inr (.inr ffa))))) (fb : Nat) (hfbN : fb + 16 ≤ N) (hffa : ∀ j, j < 8 → ffa j = some (ad (fb + 2 * j))) (Fl : Nat → Nat) (FB : Nat → Nat → Nat) (hFo : (∀ j : Nat, j < 8 → g (fb + 2 * j) = .inr (0, [.ref (ad (fb + 2 * j + 1)), .int (nI (Fl j))]))) (hFb : (∀ j : Nat, j < 8 → g (fb + 2 * j + 1) = .inl (cy 0, 200, .inl (fun x9 => nI ((FB j) x9))))) (hfo : (fb + 16 ≤ b ∨ b + 5 ≤ fb) ∧ (fi < b ∨ b + 5 ≤ fi)) (hFl : ∀ j, Fl j ≤ 200) (hFB : ∀ j i, FB j i < 64) (kn : Nat) (hkn : kn ≤ 8) : Met l yX6_takenNumber (WS yX6_takenNumber cX6_takenNumber 5 (some .int)) (rmF 2 45) (PP [.ref (ad b), .ref (ad tk), .ref (ad fi), .int (nI (kn))] D cy ad N g) (QI (fun r g1 => (r = nI ((tkNum Fl FB kn kd tv ps).1)) ∧ g1 b = .inr (6, [.ref (ad (b + 1)), .ref (ad (b + 3)), .ref (ad (b + 4)), .int (nI (pOp ((tkNum Fl FB kn kd tv ps).2))), .int (nI (pWt ((tkNum Fl FB kn kd tv ps).2))), .int (nI (pLt ((tkNum Fl FB kn kd tv ps).2))), .int (nI (pRd ((tkNum Fl FB kn kd tv ps).2))), .int (nI (pEm ((tkNum Fl FB kn kd tv ps).2))), .int (nI (pOv ((tkNum Fl FB kn kd tv ps).2))), .int (nI (ft)), .int (nI (fp))]) ∧ g1 (b + 1) = .inr (0, [.ref (ad (b + 2)), .int (nI (pLen ((tkNum Fl FB kn kd tv ps).2)))]) ∧ g1 (b + 2) = .inl (cy 0, 200, .inl (fun x9 => nI ((pB ((tkNum Fl FB kn kd tv ps).2)) x9))) ∧ g1 (b + 3) = .inl (cy 1, 4, .inl (fun x9 => nI ((pSt ((tkNum Fl FB kn kd tv ps).2)) x9))) ∧ g1 (b + 4) = .inl (cy 1, 4, .inl (fun x9 => nI ((pTm ((tkNum Fl FB kn kd tv ps).2)) x9))) ∧ (∀ j, (j < b ∨ b + 5 ≤ j) → g1 j = g j)) D ad N) 0 0 (AA ad N) := by
  refine mentry (by decide) (Nat.le_of_ble_eq_true rfl) (fun p e s m below meth c ls S hr hlk hnm hP hK hl => ?_)
  have S : CallFix p m c cX6_takenNumber 5 s _ wsL_law RX6 := S
  have hx := S.1
  have hb := S.2.1
  have hl : lv_has ls 5 [(0, .ref (ad b)), (1, .ref (ad tk)), (2, .ref (ad fi)), (3, .int (nI (kn)))] := hl
  have hI : MD (AA ad N) ad N := MD.in hinj
  have hS : va_S (AA ad N) s.heap s.heap [] := va_S.rf
  have hfr : ∀ j : Nat, g j = g j := fun _ => rfl
  have hL := hps.1.1
  have hB := hps.1.2
  have hOp := hps.2.1.1
  have hWt := hps.2.1.2.1
  have hLt := hps.2.1.2.2.1
  have hRd := hps.2.1.2.2.2.1
  have hEm := hps.2.1.2.2.2.2.1
  have hOv := hps.2.1.2.2.2.2.2
  refine lv_aload_n hx hb dX6_takenNumber_0 rfl (lv_at hl 1 rfl) ?_
  refine mg S hK hP htk hgk fd_X6_50 rfl dX6_takenNumber_1 ?_
  refine lv_iconst (v := nI (1)) hx hb dX6_takenNumber_4 (by decide) ?_
  refine lv_icmp_eq (tgt := 10) hx hb dX6_takenNumber_5 (by decide) (fun c_5 => ?_) (fun c_5 => ?_)
  · skip
    have c_5 := (nI_eq (by omega) (by omega)).mp c_5
    refine lv_aload_n hx hb dX6_takenNumber_10 rfl (lv_at hl 1 rfl) ?_
    refine mg S hK hP htk hgk fd_X6_79 rfl dX6_takenNumber_11 ?_
    refine tpi ((hvl (by omega)).1) ?_
    have htv := (hvl (by omega)).2
    refine lv_istore (lv' := [(4, .int (nI (tv))), (0, .ref (ad b)), (1, .ref (ad tk)), (2, .ref (ad fi)), (3, .int (nI (kn)))]) hx hb dX6_takenNumber_14 hl (by decide) rfl (fun ls hl => ?_)
    refine lv_iload hx hb dX6_takenNumber_16 (lv_at hl 0 rfl) ?_
    refine lv_if_lt (tgt := 46) hx hb dX6_takenNumber_18 (by decide) (fun c_18 => ?_) (fun c_18 => ?_)
    · skip
      have c_18 := (z_lt (by omega)).mp c_18
      exact c_18.elim
    · skip
      have c_18 := (not_congr (z_lt (by omega))).mp c_18
      refine lv_iload hx hb dX6_takenNumber_21 (lv_at hl 0 rfl) ?_
      refine lv_aload_n hx hb dX6_takenNumber_23 rfl (lv_at hl 1 rfl) ?_
      refine mg S hK hP (by omega) hg fd_X6_82 rfl dX6_takenNumber_24 ?_
      refine lv_bipush (v := nI (6)) hx hb dX6_takenNumber_27 (by decide) ?_
      have J43 : ∀ (bd : Nat), (bd = if pLt ps = 6 then kn else 8) → ∀ (ls : Array Slot), lv_has ls 5 [(4, .int (nI (tv))), (0, .ref (ad b)), (1, .ref (ad tk)), (2, .ref (ad fi)), (3, .int (nI (kn)))] → W p l e (rmF 2 45) s m [.ref (ad b), .ref (ad tk), .ref (ad fi), .int (nI (kn))].toArray below meth c s.heap [] 0 0 (MQ below (QI (fun r g1 => (r = nI ((tkNum Fl FB kn kd tv ps).1)) ∧ g1 b = .inr (6, [.ref (ad (b + 1)), .ref (ad (b + 3)), .ref (ad (b + 4)), .int (nI (pOp ((tkNum Fl FB kn kd tv ps).2))), .int (nI (pWt ((tkNum Fl FB kn kd tv ps).2))), .int (nI (pLt ((tkNum Fl FB kn kd tv ps).2))), .int (nI (pRd ((tkNum Fl FB kn kd tv ps).2))), .int (nI (pEm ((tkNum Fl FB kn kd tv ps).2))), .int (nI (pOv ((tkNum Fl FB kn kd tv ps).2))), .int (nI (ft)), .int (nI (fp))]) ∧ g1 (b + 1) = .inr (0, [.ref (ad (b + 2)), .int (nI (pLen ((tkNum Fl FB kn kd tv ps).2)))]) ∧ g1 (b + 2) = .inl (cy 0, 200, .inl (fun x9 => nI ((pB ((tkNum Fl FB kn kd tv ps).2)) x9))) ∧ g1 (b + 3) = .inl (cy 1, 4, .inl (fun x9 => nI ((pSt ((tkNum Fl FB kn kd tv ps).2)) x9))) ∧ g1 (b + 4) = .inl (cy 1, 4, .inl (fun x9 => nI ((pTm ((tkNum Fl FB kn kd tv ps).2)) x9))) ∧ (∀ j, (j < b ∨ b + 5 ≤ j) → g1 j = g j)) D ad N) [.ref (ad b), .ref (ad tk), .ref (ad fi), .int (nI (kn))].toArray s 0 0 (AA ad N)) (F0 m 43 ls [.int (nI (bd)), .int (nI (tv))]) := by
        intro bd hbd ls hl
        have hbd8 : bd ≤ 8 := by rw [hbd]; split <;> omega
        refine lv_icmp_lt (tgt := 48) hx hb dX6_takenNumber_43 (by decide) (fun c_43 => ?_) (fun c_43 => ?_)
        · skip
          have c_43 := (nI_ltI (by omega) (by omega)).mp c_43
          refine lv_aload_n hx hb dX6_takenNumber_48 rfl (lv_at hl 1 rfl) ?_
          refine lv_iconst (v := nI (0)) hx hb dX6_takenNumber_49 (by decide) ?_
          refine mp S hK hP hI hS (by omega) hg fd_X6_63 rfl rfl (Nat.le_of_ble_eq_true rfl) dX6_takenNumber_50 (fun g_1 H locs eg_1 hP hS => ?_)
          have hb_1 : g_1 b = .inr (6, [.ref (ad (b + 1)), .ref (ad (b + 3)), .ref (ad (b + 4)), .int (nI (pOp ps)), .int (nI (0)), .int (nI (pLt ps)), .int (nI (pRd ps)), .int (nI (pEm ps)), .int (nI (pOv ps)), .int (nI (ft)), .int (nI (fp))]) := by rw [eg_1, va_up_self]; exact rfl
          have hb___1_1 : g_1 (b + 1) = .inr (0, [.ref (ad (b + 2)), .int (nI (pLen ps))]) := ((congrFun eg_1 _).trans (va_up_ne _ _ (by omega))).trans hgd
          have hb___2_1 : g_1 (b + 2) = .inl (cy 0, 200, .inl (fun x9 => nI ((pB ps) x9))) := ((congrFun eg_1 _).trans (va_up_ne _ _ (by omega))).trans hgb
          have hb___3_1 : g_1 (b + 3) = .inl (cy 1, 4, .inl (fun x9 => nI ((pSt ps) x9))) := ((congrFun eg_1 _).trans (va_up_ne _ _ (by omega))).trans hgs
          have hb___4_1 : g_1 (b + 4) = .inl (cy 1, 4, .inl (fun x9 => nI ((pTm ps) x9))) := ((congrFun eg_1 _).trans (va_up_ne _ _ (by omega))).trans hgt
          have htk_1 : g_1 tk = .inr (5, [.ref (ad tkt), .int (nI (tlen)), .int (nI (trd)), .int (nI (kd)), .int (nI (tpl)), .int vl]) := ((congrFun eg_1 _).trans (va_up_ne _ _ (by omega))).trans hgk
          have hfi_1 : g_1 fi = .inl (cy 3, 8, .inr (.inr (.inr (.inr ffa)))) := ((congrFun eg_1 _).trans (va_up_ne _ _ (by omega))).trans hgfa
          have hfam_FO_1 : (∀ j : Nat, j < 8 → g_1 (fb + 2 * j) = .inr (0, [.ref (ad (fb + 2 * j + 1)), .int (nI (Fl j))])) := fun j hj => ((congrFun eg_1 _).trans (va_up_ne _ _ (by omega))).trans (hFo j hj)
          have hfam_FBm_1 : (∀ j : Nat, j < 8 → g_1 (fb + 2 * j + 1) = .inl (cy 0, 200, .inl (fun x9 => nI ((FB j) x9)))) := fun j hj => ((congrFun eg_1 _).trans (va_up_ne _ _ (by omega))).trans (hFb j hj)
          have hfr_1 : ∀ j : Nat, j ≠ b → g_1 j = g j := fun j n0 => ((congrFun eg_1 _).trans (va_up_ne _ _ n0)).trans (hfr j )
          refine lv_aload_n hx hb dX6_takenNumber_53 rfl (lv_at hl 1 rfl) ?_
          refine mg S hK hP (by omega) hb_1 fd_X6_82 rfl dX6_takenNumber_54 ?_
          refine lv_bipush (v := nI (6)) hx hb dX6_takenNumber_57 (by decide) ?_
          refine lv_icmp_ne (tgt := 81) hx hb dX6_takenNumber_59 (by decide) (fun c_59 => ?_) (fun c_59 => ?_)
          · skip
            have c_59 := (not_congr (nI_eq (by omega) (by omega))).mp c_59
            refine lv_aload_n hx hb dX6_takenNumber_81 rfl (lv_at hl 1 rfl) ?_
            refine lv_aload_n hx hb dX6_takenNumber_82 rfl (lv_at hl 1 rfl) ?_
            refine mg S hK hP (by omega) hb_1 fd_X6_82 rfl dX6_takenNumber_83 ?_
            refine lv_iload hx hb dX6_takenNumber_86 (lv_at hl 0 rfl) ?_
            refine kMv (As := [.int (nI (pLt ps)), .int (nI (tv))]) (rest := []) S hK hP hS (fun _ h => h) (c_X6_write l D cy ad N g_1 hinj b (by omega) ((wt0 ps)) ft fp hb_1 hb___1_1 hb___2_1 hb___3_1 hb___4_1 (wt0_ok hps) (pLt ps) tv (by first | omega | (rw [if_neg c_59] at hbd; omega))) cv_X6_88 (by omega) hb_1 ⟨_, _, rfl⟩ ⟨rfl, rfl⟩ rfl hl.1 rfl (Nat.le_of_ble_eq_true rfl) ⟨Nat.zero_le _, Nat.zero_le _⟩ dX6_takenNumber_88 (fun g_2 H locs q_2 hP hS => ?_)
            obtain ⟨hb_2, hb___1_2, hb___2_2, hb___3_2, hb___4_2, f_2⟩ := q_2
            have htk_2 : g_2 tk = .inr (5, [.ref (ad tkt), .int (nI (tlen)), .int (nI (trd)), .int (nI (kd)), .int (nI (tpl)), .int vl]) := (f_2 tk (by omega)).trans htk_1
            have hfi_2 : g_2 fi = .inl (cy 3, 8, .inr (.inr (.inr (.inr ffa)))) := (f_2 fi (by omega)).trans hfi_1
            have hfam_FO_2 : (∀ j : Nat, j < 8 → g_2 (fb + 2 * j) = .inr (0, [.ref (ad (fb + 2 * j + 1)), .int (nI (Fl j))])) := fun j hj => (f_2 (fb + 2 * j) (by omega)).trans (hfam_FO_1 j hj)
            have hfam_FBm_2 : (∀ j : Nat, j < 8 → g_2 (fb + 2 * j + 1) = .inl (cy 0, 200, .inl (fun x9 => nI ((FB j) x9)))) := fun j hj => (f_2 (fb + 2 * j + 1) (by omega)).trans (hfam_FBm_1 j hj)
            have hfr_2 : ∀ j : Nat, j ≠ b → (j < b ∨ b + 5 ≤ j) → g_2 j = g j := fun j n0 n1 => (f_2 j n1).trans (hfr_1 j n0)
            refine lv_iconst (v := nI (0)) hx hb dX6_takenNumber_91 (by decide) ?_
            have hR : tkNum Fl FB kn kd tv ps = (0, if pLt ps = 6 then woP (bt8 (FB tv) (Fl tv)) 0 (Fl tv) (wt0 ps) else wrP (8 * pLt ps + tv) (wt0 ps)) := by unfold tkNum; rw [if_pos c_5, if_pos (by rw [← hbd]; omega)]
            exact rMi S hr hlk hP hS ⟨(by rw [hR]), (by rw [hR]; first | (rw [if_pos c_59]; exact hb_2) | (rw [if_neg c_59]; exact hb_2)), (by rw [hR]; first | (rw [if_pos c_59]; exact hb___1_2) | (rw [if_neg c_59]; exact hb___1_2)), (by rw [hR]; first | (rw [if_pos c_59]; exact hb___2_2) | (rw [if_neg c_59]; exact hb___2_2)), (by rw [hR]; first | (rw [if_pos c_59]; exact hb___3_2) | (rw [if_neg c_59]; exact hb___3_2)), (by rw [hR]; first | (rw [if_pos c_59]; exact hb___4_2) | (rw [if_neg c_59]; exact hb___4_2)), (fun j n0 => hfr_2 j (by omega) (by omega))⟩ dX6_takenNumber_92
          · skip
            have c_59 := (nI_eq (by omega) (by omega)).mp c_59
            refine lv_aload_n hx hb dX6_takenNumber_62 rfl (lv_at hl 1 rfl) ?_
            refine lv_aload_n hx hb dX6_takenNumber_63 rfl (lv_at hl 3 rfl) ?_
            have htv8 : tv < 8 := by omega
            have hfc_3 : g_1 (fb + 2 * tv + 1) = .inl (cy 0, 200, .inl (fun x9 => nI ((FB tv) x9))) := hfam_FBm_1 tv htv8
            refine lv_iload hx hb dX6_takenNumber_64 (lv_at hl 0 rfl) ?_
            have hfc_4 : g_1 (fb + 2 * tv) = .inr (0, [.ref (ad (fb + 2 * tv + 1)), .int (nI (Fl tv))]) := hfam_FO_1 tv htv8
            refine mial7 S hK hP hfi hfi_1 rfl (vp_in_nI (by omega) (by omega)) (a := ad (fb + 2 * tv)) ((congrArg ffa (nI_clamp (by omega))).trans (hffa tv htv8)) dX6_takenNumber_66 ?_
            refine lv_iconst (v := nI (0)) hx hb dX6_takenNumber_67 (by decide) ?_
            refine lv_aload_n hx hb dX6_takenNumber_68 rfl (lv_at hl 3 rfl) ?_
            refine lv_iload hx hb dX6_takenNumber_69 (lv_at hl 0 rfl) ?_
            refine mial7 S hK hP hfi hfi_1 rfl (vp_in_nI (by omega) (by omega)) (a := ad (fb + 2 * tv)) ((congrArg ffa (nI_clamp (by omega))).trans (hffa tv htv8)) dX6_takenNumber_71 ?_
            refine mg S hK hP (by omega) hfc_4 fd_X6_57 rfl dX6_takenNumber_72 ?_
            refine kMv (As := [.ref (ad (fb + 2 * tv)), .int (nI (0)), .int (nI (Fl tv))]) (rest := []) S hK hP hS (fun _ h => h) (c_X6_writeOut l D cy ad N g_1 hinj b (by omega) ((wt0 ps)) ft fp hb_1 hb___1_1 hb___2_1 hb___3_1 hb___4_1 (wt0_ok hps) (fb + 2 * tv) (by omega) (fb + 2 * tv + 1) (by omega) (Fl tv) (FB tv) hfc_4 hfc_3 (by omega) (hFl tv) (hFB tv) 0 (Fl tv) (Nat.zero_le _) (by have := hFl tv; omega)) cv_X6_102 (by omega) hb_1 ⟨_, _, rfl⟩ ⟨rfl, rfl⟩ rfl hl.1 rfl (Nat.le_of_ble_eq_true rfl) ⟨Nat.zero_le _, Nat.zero_le _⟩ dX6_takenNumber_75 (fun g_5 H locs q_5 hP hS => ?_)
            obtain ⟨hb_5, hb___1_5, hb___2_5, hb___3_5, hb___4_5, f_5⟩ := q_5
            have htk_5 : g_5 tk = .inr (5, [.ref (ad tkt), .int (nI (tlen)), .int (nI (trd)), .int (nI (kd)), .int (nI (tpl)), .int vl]) := (f_5 tk (by omega)).trans htk_1
            have hfi_5 : g_5 fi = .inl (cy 3, 8, .inr (.inr (.inr (.inr ffa)))) := (f_5 fi (by omega)).trans hfi_1
            have hfb___2___tv___1_5 : g_5 (fb + 2 * tv + 1) = .inl (cy 0, 200, .inl (fun x9 => nI ((FB tv) x9))) := (f_5 (fb + 2 * tv + 1) (by omega)).trans hfc_3
            have hfb___2___tv_5 : g_5 (fb + 2 * tv) = .inr (0, [.ref (ad (fb + 2 * tv + 1)), .int (nI (Fl tv))]) := (f_5 (fb + 2 * tv) (by omega)).trans hfc_4
            have hfam_FO_5 : (∀ j : Nat, j < 8 → g_5 (fb + 2 * j) = .inr (0, [.ref (ad (fb + 2 * j + 1)), .int (nI (Fl j))])) := fun j hj => (f_5 (fb + 2 * j) (by omega)).trans (hfam_FO_1 j hj)
            have hfam_FBm_5 : (∀ j : Nat, j < 8 → g_5 (fb + 2 * j + 1) = .inl (cy 0, 200, .inl (fun x9 => nI ((FB j) x9)))) := fun j hj => (f_5 (fb + 2 * j + 1) (by omega)).trans (hfam_FBm_1 j hj)
            have hfr_5 : ∀ j : Nat, j ≠ b → (j < b ∨ b + 5 ≤ j) → g_5 j = g j := fun j n0 n1 => (f_5 j n1).trans (hfr_1 j n0)
            refine lv_goto (tgt := 91) hx hb dX6_takenNumber_78 (by decide) ?_
            refine lv_iconst (v := nI (0)) hx hb dX6_takenNumber_91 (by decide) ?_
            have hR : tkNum Fl FB kn kd tv ps = (0, if pLt ps = 6 then woP (bt8 (FB tv) (Fl tv)) 0 (Fl tv) (wt0 ps) else wrP (8 * pLt ps + tv) (wt0 ps)) := by unfold tkNum; rw [if_pos c_5, if_pos (by rw [← hbd]; omega)]
            exact rMi S hr hlk hP hS ⟨(by rw [hR]), (by rw [hR]; first | (rw [if_pos c_59]; exact hb_5) | (rw [if_neg c_59]; exact hb_5)), (by rw [hR]; first | (rw [if_pos c_59]; exact hb___1_5) | (rw [if_neg c_59]; exact hb___1_5)), (by rw [hR]; first | (rw [if_pos c_59]; exact hb___2_5) | (rw [if_neg c_59]; exact hb___2_5)), (by rw [hR]; first | (rw [if_pos c_59]; exact hb___3_5) | (rw [if_neg c_59]; exact hb___3_5)), (by rw [hR]; first | (rw [if_pos c_59]; exact hb___4_5) | (rw [if_neg c_59]; exact hb___4_5)), (fun j n0 => hfr_5 j (by omega) (by omega))⟩ dX6_takenNumber_92
        · skip
          have c_43 := (not_congr (nI_ltI (by omega) (by omega))).mp c_43
          refine lv_iconst (v := nI (3)) hx hb dX6_takenNumber_46 (by decide) ?_
          have hR : tkNum Fl FB kn kd tv ps = (3, ps) := by unfold tkNum; rw [if_pos c_5, if_neg (by rw [← hbd]; omega)]
          exact rMi S hr hlk hP hS ⟨(by rw [hR]), (by first | exact hg | (rw [hR]; exact hg)), (by first | exact hgd | (rw [hR]; exact hgd)), (by first | exact hgb | (rw [hR]; exact hgb)), (by first | exact hgs | (rw [hR]; exact hgs)), (by first | exact hgt | (rw [hR]; exact hgt)), (fun j n0 => hfr j )⟩ dX6_takenNumber_47
      refine lv_icmp_ne (tgt := 41) hx hb dX6_takenNumber_29 (by decide) (fun c_29 => ?_) (fun c_29 => ?_)
      · skip
        have c_29 := (not_congr (nI_eq (by omega) (by omega))).mp c_29
        refine lv_bipush (v := nI (8)) hx hb dX6_takenNumber_41 (by decide) ?_
        exact J43 8 (if_neg c_29).symm _ (lv_sub hl [0, 1, 2, 3, 4] rfl)
      · skip
        have c_29 := (nI_eq (by omega) (by omega)).mp c_29
        refine lv_iload_n hx hb dX6_takenNumber_32 rfl (lv_at hl 4 rfl) ?_
        refine lv_aload_n hx hb dX6_takenNumber_33 rfl (lv_at hl 3 rfl) ?_
        refine malen S hK hP hfi hgfa rfl (v := nI 8) rfl dX6_takenNumber_34 ?_
        refine va_mmin (rest := [.int (nI (tv))]) hx hb (S.2.2.1.trans hl.1.symm) S.2.2.2.1 (S.2.2.2.2 _ m_X6_96) (S.2.2.2.2 _ mt_Lib_Math_min_name) (S.2.2.2.2 _ mn_java_lang_Math) (S.2.2.2.2 _ mc_Lib_Math_min_name) (Nat.le_of_ble_eq_true rfl) (Nat.le_of_ble_eq_true rfl) (Nat.zero_le _) (Nat.zero_le _) dX6_takenNumber_35 ?_
        refine tpi (min8 hkn) ?_
        refine lv_goto (tgt := 43) hx hb dX6_takenNumber_38 (by decide) ?_
        exact J43 kn (if_pos c_29).symm _ (lv_sub hl [0, 1, 2, 3, 4] rfl)
  · skip
    have c_5 := (not_congr (nI_eq (by omega) (by omega))).mp c_5
    refine lv_iconst (v := nI (2)) hx hb dX6_takenNumber_8 (by decide) ?_
    have hR : tkNum Fl FB kn kd tv ps = (2, ps) := if_neg c_5
    exact rMi S hr hlk hP hS ⟨(by rw [hR]), (by first | exact hg | (rw [hR]; exact hg)), (by first | exact hgd | (rw [hR]; exact hgd)), (by first | exact hgb | (rw [hR]; exact hgb)), (by first | exact hgs | (rw [hR]; exact hgs)), (by first | exact hgt | (rw [hR]; exact hgt)), (fun j n0 => hfr j )⟩ dX6_takenNumber_9
set_option maxHeartbeats 4000000 in
set_option maxRecDepth 100000 in
theorem c_X6_taken (l : Launch) (D : va_G) (cy : Nat → ClassId) (ad : Nat → Nat) (N : Nat) (g : Nat → va_E) (hinj : ∀ i j : Nat, i < N → j < N → ad i = ad j → i = j) (b : Nat) (hbN : b + 5 ≤ N) (ps : PS) (ft : Nat) (fp : Nat) (hg : g b = .inr (6, [.ref (ad (b + 1)), .ref (ad (b + 3)), .ref (ad (b + 4)), .int (nI (pOp ps)), .int (nI (pWt ps)), .int (nI (pLt ps)), .int (nI (pRd ps)), .int (nI (pEm ps)), .int (nI (pOv ps)), .int (nI (ft)), .int (nI (fp))])) (hgd : g (b + 1) = .inr (0, [.ref (ad (b + 2)), .int (nI (pLen ps))])) (hgb : g (b + 2) = .inl (cy 0, 200, .inl (fun x9 => nI ((pB ps) x9)))) (hgs : g (b + 3) = .inl (cy 1, 4, .inl (fun x9 => nI ((pSt ps) x9)))) (hgt : g (b + 4) = .inl (cy 1, 4, .inl (fun x9 => nI ((pTm ps) x9)))) (hps : POK ps) (tk : Nat) (htk : tk < N) (tkt : Nat) (tlen : Nat) (trd : Nat) (kd : Nat) (tpl : Nat) (vl : Int32) (hgk : g tk = .inr (5, [.ref (ad tkt), .int (nI (tlen)), .int (nI (trd)), .int (nI (kd)), .int (nI (tpl)), .int vl])) (htko : tk < b ∨ b + 5 ≤ tk) (tv : Nat) (hkd : kd < 7) (hvl : kd < 2 → vl = nI tv ∧ tv < 3000) (hv7 : kd = 0 → tv < 7) (fi : Nat) (hfi : fi < N) (ffa : Nat → Option Nat) (hgfa : g fi = .inl (cy 3, 8, .inr (.inr (.inr (.inr ffa))))) (fb : Nat) (hfbN : fb + 16 ≤ N) (hffa : ∀ j, j < 8 → ffa j = some (ad (fb + 2 * j))) (Fl : Nat → Nat) (FB : Nat → Nat → Nat) (hFo : (∀ j : Nat, j < 8 → g (fb + 2 * j) = .inr (0, [.ref (ad (fb + 2 * j + 1)), .int (nI (Fl j))]))) (hFb : (∀ j : Nat, j < 8 → g (fb + 2 * j + 1) = .inl (cy 0, 200, .inl (fun x9 => nI ((FB j) x9))))) (hfo : (fb + 16 ≤ b ∨ b + 5 ≤ fb) ∧ (fi < b ∨ b + 5 ≤ fi)) (hFl : ∀ j, Fl j ≤ 200) (hFB : ∀ j i, FB j i < 64) (kn : Nat) (hkn : kn ≤ 8) : Met l yX6_taken (WS yX6_taken cX6_taken 4 (some .int)) (rmF 4 89) (PP [.ref (ad b), .ref (ad tk), .ref (ad fi), .int (nI (kn))] D cy ad N g) (QI (fun r g1 => (r = nI ((tkAny Fl FB kn kd tv ps).1)) ∧ g1 b = .inr (6, [.ref (ad (b + 1)), .ref (ad (b + 3)), .ref (ad (b + 4)), .int (nI (pOp ((tkAny Fl FB kn kd tv ps).2))), .int (nI (pWt ((tkAny Fl FB kn kd tv ps).2))), .int (nI (pLt ((tkAny Fl FB kn kd tv ps).2))), .int (nI (pRd ((tkAny Fl FB kn kd tv ps).2))), .int (nI (pEm ((tkAny Fl FB kn kd tv ps).2))), .int (nI (pOv ((tkAny Fl FB kn kd tv ps).2))), .int (nI (ft)), .int (nI (fp))]) ∧ g1 (b + 1) = .inr (0, [.ref (ad (b + 2)), .int (nI (pLen ((tkAny Fl FB kn kd tv ps).2)))]) ∧ g1 (b + 2) = .inl (cy 0, 200, .inl (fun x9 => nI ((pB ((tkAny Fl FB kn kd tv ps).2)) x9))) ∧ g1 (b + 3) = .inl (cy 1, 4, .inl (fun x9 => nI ((pSt ((tkAny Fl FB kn kd tv ps).2)) x9))) ∧ g1 (b + 4) = .inl (cy 1, 4, .inl (fun x9 => nI ((pTm ((tkAny Fl FB kn kd tv ps).2)) x9))) ∧ (∀ j, (j < b ∨ b + 5 ≤ j) → g1 j = g j)) D ad N) 0 0 (AA ad N) := by
  refine mentry (by decide) (Nat.le_of_ble_eq_true rfl) (fun p e s m below meth c ls S hr hlk hnm hP hK hl => ?_)
  have S : CallFix p m c cX6_taken 4 s _ wsL_law RX6 := S
  have hx := S.1
  have hb := S.2.1
  have hl : lv_has ls 4 [(0, .ref (ad b)), (1, .ref (ad tk)), (2, .ref (ad fi)), (3, .int (nI (kn)))] := hl
  have hI : MD (AA ad N) ad N := MD.in hinj
  have hS : va_S (AA ad N) s.heap s.heap [] := va_S.rf
  have hfr : ∀ j : Nat, g j = g j := fun _ => rfl
  have hL := hps.1.1
  have hB := hps.1.2
  have hOp := hps.2.1.1
  have hWt := hps.2.1.2.1
  have hLt := hps.2.1.2.2.1
  have hRd := hps.2.1.2.2.2.1
  have hEm := hps.2.1.2.2.2.2.1
  have hOv := hps.2.1.2.2.2.2.2
  refine lv_aload_n hx hb dX6_taken_0 rfl (lv_at hl 1 rfl) ?_
  refine mg S hK hP htk hgk fd_X6_50 rfl dX6_taken_1 ?_
  refine lv_bipush (v := nI (6)) hx hb dX6_taken_4 (by decide) ?_
  refine lv_icmp_ne (tgt := 11) hx hb dX6_taken_6 (by decide) (fun c_6 => ?_) (fun c_6 => ?_)
  · skip
    have c_6 := (not_congr (nI_eq (by omega) (by omega))).mp c_6
    refine lv_aload_n hx hb dX6_taken_11 rfl (lv_at hl 0 rfl) ?_
    refine mg S hK hP (by omega) hg fd_X6_63 rfl dX6_taken_12 ?_
    obtain ⟨wq, hwq⟩ : ∃ wq, wq = pWt ps := ⟨_, rfl⟩
    refine tpi (congrArg nI hwq.symm) ?_
    rw [← hwq] at hWt
    rcases (show wq = 0 ∨ wq = 1 ∨ wq = 2 by omega) with rfl | rfl | rfl
    · skip
      refine lv_lookup (tgt := 54) hx hb dX6_taken_15 (by decide) rfl (by decide) ?_
      refine lv_aload_n hx hb dX6_taken_54 rfl (lv_at hl 0 rfl) ?_
      refine lv_aload_n hx hb dX6_taken_55 rfl (lv_at hl 1 rfl) ?_
      refine kMi (As := [.ref (ad tk)]) (rest := []) S hK hP hS (fun _ h => h) (c_X6_takenItem l D cy ad N g hinj b (by omega) ps ft fp hg hgd hgb hgs hgt hps tk htk tkt tlen trd kd tpl vl hgk htko tv hkd hvl hv7) cv_X6_76 (by omega) hg ⟨_, _, rfl⟩ ⟨rfl, rfl⟩ rfl hl.1 rfl (Nat.le_of_ble_eq_true rfl) ⟨Nat.zero_le _, Nat.zero_le _⟩ dX6_taken_56 (fun r_56 g_1 H locs q_1 hP hS => ?_)
      obtain ⟨q_56, hb_1, hb___1_1, hb___2_1, hb___3_1, hb___4_1, f_1⟩ := q_1
      subst q_56
      have htk_1 : g_1 tk = .inr (5, [.ref (ad tkt), .int (nI (tlen)), .int (nI (trd)), .int (nI (kd)), .int (nI (tpl)), .int vl]) := (f_1 tk (by omega)).trans hgk
      have hfi_1 : g_1 fi = .inl (cy 3, 8, .inr (.inr (.inr (.inr ffa)))) := (f_1 fi (by omega)).trans hgfa
      have hfam_FO_1 : (∀ j : Nat, j < 8 → g_1 (fb + 2 * j) = .inr (0, [.ref (ad (fb + 2 * j + 1)), .int (nI (Fl j))])) := fun j hj => (f_1 (fb + 2 * j) (by omega)).trans (hFo j hj)
      have hfam_FBm_1 : (∀ j : Nat, j < 8 → g_1 (fb + 2 * j + 1) = .inl (cy 0, 200, .inl (fun x9 => nI ((FB j) x9)))) := fun j hj => (f_1 (fb + 2 * j + 1) (by omega)).trans (hFb j hj)
      have hfr_1 : ∀ j : Nat, (j < b ∨ b + 5 ≤ j) → g_1 j = g j := fun j n0 => (f_1 j n0).trans (hfr j )
      have hR : tkAny Fl FB kn kd tv ps = tkItem kd tv ps := by unfold tkAny; rw [if_neg c_6, if_neg (by omega), if_neg (by omega)]
      exact rMi S hr hlk hP hS ⟨(by rw [hR]), (by first | exact hb_1 | (rw [hR]; exact hb_1)), (by first | exact hb___1_1 | (rw [hR]; exact hb___1_1)), (by first | exact hb___2_1 | (rw [hR]; exact hb___2_1)), (by first | exact hb___3_1 | (rw [hR]; exact hb___3_1)), (by first | exact hb___4_1 | (rw [hR]; exact hb___4_1)), hfr_1⟩ dX6_taken_59
    · skip
      refine lv_lookup (tgt := 40) hx hb dX6_taken_15 (by decide) rfl (by decide) ?_
      refine lv_aload_n hx hb dX6_taken_40 rfl (lv_at hl 0 rfl) ?_
      refine lv_aload_n hx hb dX6_taken_41 rfl (lv_at hl 1 rfl) ?_
      refine lv_aload_n hx hb dX6_taken_42 rfl (lv_at hl 2 rfl) ?_
      refine lv_iload_n hx hb dX6_taken_43 rfl (lv_at hl 3 rfl) ?_
      refine kMi (As := [.ref (ad tk), .ref (ad fi), .int (nI (kn))]) (rest := []) S hK hP hS (fun _ h => h) (c_X6_takenNumber l D cy ad N g hinj b (by omega) ps ft fp hg hgd hgb hgs hgt hps tk htk tkt tlen trd kd tpl vl hgk htko tv hkd hvl hv7 fi hfi ffa hgfa fb (by omega) hffa Fl FB hFo hFb hfo hFl hFB kn hkn) cv_X6_69 (by omega) hg ⟨_, _, rfl⟩ ⟨rfl, rfl⟩ rfl hl.1 rfl (Nat.le_of_ble_eq_true rfl) ⟨Nat.zero_le _, Nat.zero_le _⟩ dX6_taken_44 (fun r_44 g_2 H locs q_2 hP hS => ?_)
      obtain ⟨q_44, hb_2, hb___1_2, hb___2_2, hb___3_2, hb___4_2, f_2⟩ := q_2
      subst q_44
      have htk_2 : g_2 tk = .inr (5, [.ref (ad tkt), .int (nI (tlen)), .int (nI (trd)), .int (nI (kd)), .int (nI (tpl)), .int vl]) := (f_2 tk (by omega)).trans hgk
      have hfi_2 : g_2 fi = .inl (cy 3, 8, .inr (.inr (.inr (.inr ffa)))) := (f_2 fi (by omega)).trans hgfa
      have hfam_FO_2 : (∀ j : Nat, j < 8 → g_2 (fb + 2 * j) = .inr (0, [.ref (ad (fb + 2 * j + 1)), .int (nI (Fl j))])) := fun j hj => (f_2 (fb + 2 * j) (by omega)).trans (hFo j hj)
      have hfam_FBm_2 : (∀ j : Nat, j < 8 → g_2 (fb + 2 * j + 1) = .inl (cy 0, 200, .inl (fun x9 => nI ((FB j) x9)))) := fun j hj => (f_2 (fb + 2 * j + 1) (by omega)).trans (hFb j hj)
      have hfr_2 : ∀ j : Nat, (j < b ∨ b + 5 ≤ j) → g_2 j = g j := fun j n0 => (f_2 j n0).trans (hfr j )
      have hR : tkAny Fl FB kn kd tv ps = tkNum Fl FB kn kd tv ps := by unfold tkAny; rw [if_neg c_6, if_pos hwq.symm]
      exact rMi S hr hlk hP hS ⟨(by rw [hR]), (by first | exact hb_2 | (rw [hR]; exact hb_2)), (by first | exact hb___1_2 | (rw [hR]; exact hb___1_2)), (by first | exact hb___2_2 | (rw [hR]; exact hb___2_2)), (by first | exact hb___3_2 | (rw [hR]; exact hb___3_2)), (by first | exact hb___4_2 | (rw [hR]; exact hb___4_2)), hfr_2⟩ dX6_taken_47
    · skip
      refine lv_lookup (tgt := 48) hx hb dX6_taken_15 (by decide) rfl (by decide) ?_
      refine lv_aload_n hx hb dX6_taken_48 rfl (lv_at hl 0 rfl) ?_
      refine lv_aload_n hx hb dX6_taken_49 rfl (lv_at hl 1 rfl) ?_
      refine kMi (As := [.ref (ad tk)]) (rest := []) S hK hP hS (fun _ h => h) (c_X6_takenOpen l D cy ad N g hinj b (by omega) ps ft fp hg hgd hgb hgs hgt hps tk htk tkt tlen trd kd tpl vl hgk htko tv hkd hvl hv7) cv_X6_72 (by omega) hg ⟨_, _, rfl⟩ ⟨rfl, rfl⟩ rfl hl.1 rfl (Nat.le_of_ble_eq_true rfl) ⟨Nat.zero_le _, Nat.zero_le _⟩ dX6_taken_50 (fun r_50 g_3 H locs q_3 hP hS => ?_)
      obtain ⟨q_50, hb_3, hb___1_3, hb___2_3, hb___3_3, hb___4_3, f_3⟩ := q_3
      subst q_50
      have htk_3 : g_3 tk = .inr (5, [.ref (ad tkt), .int (nI (tlen)), .int (nI (trd)), .int (nI (kd)), .int (nI (tpl)), .int vl]) := (f_3 tk (by omega)).trans hgk
      have hfi_3 : g_3 fi = .inl (cy 3, 8, .inr (.inr (.inr (.inr ffa)))) := (f_3 fi (by omega)).trans hgfa
      have hfam_FO_3 : (∀ j : Nat, j < 8 → g_3 (fb + 2 * j) = .inr (0, [.ref (ad (fb + 2 * j + 1)), .int (nI (Fl j))])) := fun j hj => (f_3 (fb + 2 * j) (by omega)).trans (hFo j hj)
      have hfam_FBm_3 : (∀ j : Nat, j < 8 → g_3 (fb + 2 * j + 1) = .inl (cy 0, 200, .inl (fun x9 => nI ((FB j) x9)))) := fun j hj => (f_3 (fb + 2 * j + 1) (by omega)).trans (hFb j hj)
      have hfr_3 : ∀ j : Nat, (j < b ∨ b + 5 ≤ j) → g_3 j = g j := fun j n0 => (f_3 j n0).trans (hfr j )
      have hR : tkAny Fl FB kn kd tv ps = tkOpen kd ps := by unfold tkAny; rw [if_neg c_6, if_neg (by omega), if_pos hwq.symm]
      exact rMi S hr hlk hP hS ⟨(by rw [hR]), (by first | exact hb_3 | (rw [hR]; exact hb_3)), (by first | exact hb___1_3 | (rw [hR]; exact hb___1_3)), (by first | exact hb___2_3 | (rw [hR]; exact hb___2_3)), (by first | exact hb___3_3 | (rw [hR]; exact hb___3_3)), (by first | exact hb___4_3 | (rw [hR]; exact hb___4_3)), hfr_3⟩ dX6_taken_53
  · skip
    have c_6 := (nI_eq (by omega) (by omega)).mp c_6
    refine lv_iconst (v := nI (1)) hx hb dX6_taken_9 (by decide) ?_
    have hR : tkAny Fl FB kn kd tv ps = (1, ps) := if_pos c_6
    exact rMi S hr hlk hP hS ⟨(by rw [hR]), (by first | exact hg | (rw [hR]; exact hg)), (by first | exact hgd | (rw [hR]; exact hgd)), (by first | exact hgb | (rw [hR]; exact hgb)), (by first | exact hgs | (rw [hR]; exact hgs)), (by first | exact hgt | (rw [hR]; exact hgt)), (fun j n0 => hfr j )⟩ dX6_taken_10


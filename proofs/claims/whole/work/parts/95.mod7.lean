set_option maxHeartbeats 4000000 in
set_option maxRecDepth 100000 in
theorem c_X10_act (l : Launch) (D : va_G) (cy : Nat → ClassId) (ad : Nat → Nat) (N : Nat) (g : Nat → va_E) (hinj : ∀ i j : Nat, i < N → j < N → ad i = ad j → i = j) (hN : 145 ≤ N) (F : FS) (la : Int32) (bo : Int32) (tp : Nat) (ft : Int32) (wr0 : Nat) (wa : Nat) (at0 : Nat) (sp : Nat) (tk : Nat) (vl : Int32) (fi : Nat) (nm : Nat) (dp : Nat) (wy : Int32) (st : Int32) (aP : Nat) (aF : Nat) (aH : Nat) (aO : Nat) (ps : Nat) (mn : Nat) (go : Int32) (vi : Nat) (hM : g 114 = mob ad (nI (wn F.1)) (nI (wf F.1)) (nI (wh F.1)) (lN (wo F.1)) (nI (F.2.2.2)) la bo (nI (tp)) ft (nI (wr0)) (nI (wa)) (nI (at0)) (nI (sp)) (nI (tk)) vl (nI (fi)) (nI (nm)) (nI (dp)) wy st (nI (aP)) (nI (aF)) (nI (aH)) (lN aO) (nI (ps)) (nI (mn)) go (nI (vi))) (P : Nat → Nat) (hP9 : g 115 = .inl (cy 1, 8, .inl (fun x9 => nI (P x9)))) (hF : FOK F) (hPw : ∀ i, i < wn F.1 → P i = wp F.1 i) (OP : Nat → Nat) (hO1 : g 116 = .inl (cy 1, 12, .inl (fun x9 => nI (OP x9)))) (OF : Nat → Nat) (hO2 : g 117 = .inl (cy 1, 12, .inl (fun x9 => nI (OF x9)))) (OH : Nat → Nat) (hO3 : g 118 = .inl (cy 1, 12, .inl (fun x9 => nI (OH x9)))) (OO : Nat → Int64) (hO4 : g 119 = .inl (cy 2, 12, .inr (.inl OO))) (hUR : UR F OP OF OH OO) (s0 : Int32) (k0 : Int32) : Met l yX10_act (WS yX10_act cX10_act 3 (some .int)) (rmF 5 129) (PP [.ref (ad 114), .int s0, .int k0] D cy ad N g) (QI (fun r g1 => ∃ (P2 : Nat → Nat), ∃ (OP2 : Nat → Nat), ∃ (OF2 : Nat → Nat), ∃ (OH2 : Nat → Nat), ∃ (OO2 : Nat → Int64), (r = (attF s0 k0 F).1) ∧ (∀ i, i < wn F.1 → P2 i = wp (attF s0 k0 F).2.1 i) ∧ (UR (attF s0 k0 F).2 OP2 OF2 OH2 OO2) ∧ g1 114 = mob ad (nI (wn F.1)) (nI (wf (attF s0 k0 F).2.1)) (nI (wh (attF s0 k0 F).2.1)) (lN (wo (attF s0 k0 F).2.1)) (nI ((attF s0 k0 F).2.2.2.2)) la bo (nI (tp)) ft (nI (wr0)) (nI (wa)) (nI (at0)) (nI (sp)) (nI (tk)) vl (nI (fi)) (nI (nm)) (nI (dp)) wy st (nI (aP)) (nI (aF)) (nI (aH)) (lN aO) (nI (ps)) (nI (mn)) go (nI (vi)) ∧ g1 115 = .inl (cy 1, 8, .inl (fun x9 => nI (P2 x9))) ∧ g1 116 = .inl (cy 1, 12, .inl (fun x9 => nI (OP2 x9))) ∧ g1 117 = .inl (cy 1, 12, .inl (fun x9 => nI (OF2 x9))) ∧ g1 118 = .inl (cy 1, 12, .inl (fun x9 => nI (OH2 x9))) ∧ g1 119 = .inl (cy 2, 12, .inr (.inl OO2)) ∧ (∀ j, j ≠ 114 → j ≠ 115 → j ≠ 116 → j ≠ 117 → j ≠ 118 → j ≠ 119 → g1 j = g j)) D ad N) 0 0 (AA ad N) := by
  refine mentry (by decide) (Nat.le_of_ble_eq_true rfl) (fun p e s m below meth c ls S hr hlk hnm hP hK hl => ?_)
  have S : CallFix p m c cX10_act 3 s _ wsL_law RX10 := S
  have hx := S.1
  have hb := S.2.1
  have hl : lv_has ls 3 [(0, .ref (ad 114)), (1, .int s0), (2, .int k0)] := hl
  have hI : MD (AA ad N) ad N := MD.in hinj
  have hS : va_S (AA ad N) s.heap s.heap [] := va_S.rf
  have hfr : ∀ j : Nat, g j = g j := fun _ => rfl
  have hw := hF.1
  have hn4 := hw.1.1
  have hn8 := hw.1.2
  have hpm := perm_P hw hPw
  have hf := lt256 hw.2.2.1 hn8
  have hh := lt256 hw.2.2.2.1 hn8
  have ho := hw.2.2.2.2.1
  have hun := hF.2.2.2
  have hP8 := P8 hw hPw
  have hpk := pk_24 hn8 hP8
  refine lv_iload_n hx hb dX10_act_0 rfl (lv_at hl 1 rfl) ?_
  refine lv_iload_n hx hb dX10_act_1 rfl (lv_at hl 2 rfl) ?_
  refine lv_aload_n hx hb dX10_act_2 rfl (lv_at hl 0 rfl) ?_
  refine mg S hK hP (by omega) hM fd_X10_7 rfl dX10_act_3 ?_
  refine kSi (As := [.int s0, .int k0, .int (nI (wn F.1))]) (rest := []) S hK hP (c_X10_isAct l D cy ad N g s0 k0 (wn F.1) hn4 hn8) cs_X10_165 ⟨rfl, rfl⟩ rfl hl.1 rfl (Nat.le_of_ble_eq_true rfl) ⟨Nat.zero_le _, Nat.zero_le _⟩ dX10_act_6 (fun r_6 q_6 => ?_)
  subst q_6
  refine lv_if_eq (tgt := 21) hx hb dX10_act_9 (by decide) (fun c_9 => ?_) (fun c_9 => ?_)
  · skip
    have c_9 := bz_eq.mp c_9
    have hno : ¬ isA (wn F.1) s0 k0 := c_9
    have eF : (attF s0 k0 F).2.1 = F.1 := congrArg Prod.snd (chg_no hno)
    have e1 : ¬ (attF s0 k0 F).1 = 1 := by rw [show (attF s0 k0 F).1 = -1 from congrArg Prod.fst (chg_no hno)]; decide
    have eu : (attF s0 k0 F).2.2.2.2 = F.2.2.2 := if_neg e1
    refine lv_iconst (v := (-1)) hx hb dX10_act_21 (by decide) ?_
    exact rMi S hr hlk hP hS ⟨_, _, _, _, _, (congrArg Prod.fst (chg_no hno)).symm, (by first | (rw [eF]; exact hPw) | (rw [← eA]; exact hP2_1)), (by first | exact UR_n hF hUR e1 | (rw [← eA]; exact hUR2_1)), (by rw [eF, eu]; exact hM), hP9, hO1, hO2, hO3, hO4, (fun j n0 n1 n2 n3 n4 n5 => hfr j )⟩ dX10_act_22
  · skip
    have c_9 := bz_ne.mp c_9
    obtain ⟨S0, K0, hS5, hKb, rfl, rfl⟩ := isA_nat hn8 (show isA (wn F.1) s0 k0 from c_9)
    have hK8 : K0 < 8 := by split at hKb <;> omega
    have eA := atR_c (F := F) (S := S0) (K := K0) (by omega)
    refine lv_aload_n hx hb dX10_act_12 rfl (lv_at hl 0 rfl) ?_
    refine lv_iload_n hx hb dX10_act_13 rfl (lv_at hl 1 rfl) ?_
    refine lv_iload_n hx hb dX10_act_14 rfl (lv_at hl 2 rfl) ?_
    refine kMi (As := [.int (nI (S0)), .int (nI (K0))]) (rest := []) S hK hP hS (fun _ h => h) (c_X10_doesAct l D cy ad N g hinj (by omega) F la bo tp ft wr0 wa at0 sp tk vl fi nm dp wy st aP aF aH aO ps mn go vi hM P hP9 hF hPw OP hO1 OF hO2 OH hO3 OO hO4 hUR S0 (by omega) K0 hK8) cv_X10_186 (by omega) hM ⟨_, _, rfl⟩ ⟨rfl, rfl⟩ rfl hl.1 rfl (Nat.le_of_ble_eq_true rfl) ⟨Nat.zero_le _, Nat.zero_le _⟩ dX10_act_15 (fun r_15 g_1 H locs q_1 hP hS => ?_)
    obtain ⟨P2_1, OP2_1, OF2_1, OH2_1, OO2_1, q_15, hP2_1, hUR2_1, h114_1, h115_1, h116_1, h117_1, h118_1, h119_1, f_1⟩ := q_1
    subst q_15
    have hfr_1 : ∀ j : Nat, j ≠ 114 → j ≠ 115 → j ≠ 116 → j ≠ 117 → j ≠ 118 → j ≠ 119 → g_1 j = g j := fun j n0 n1 n2 n3 n4 n5 => (f_1 j n0 n1 n2 n3 n4 n5).trans (hfr j )
    refine lv_goto (tgt := 22) hx hb dX10_act_18 (by decide) ?_
    exact rMi S hr hlk hP hS ⟨_, _, _, _, _, (by rw [eA]), (by first | (rw [eF]; exact hPw) | (rw [← eA]; exact hP2_1)), (by first | exact UR_n hF hUR e1 | (rw [← eA]; exact hUR2_1)), (by rw [← eA]; exact h114_1), h115_1, h116_1, h117_1, h118_1, h119_1, hfr_1⟩ dX10_act_22
set_option maxHeartbeats 4000000 in
set_option maxRecDepth 100000 in
theorem c_X10_undo (l : Launch) (D : va_G) (cy : Nat → ClassId) (ad : Nat → Nat) (N : Nat) (g : Nat → va_E) (hinj : ∀ i j : Nat, i < N → j < N → ad i = ad j → i = j) (hN : 145 ≤ N) (F : FS) (la : Int32) (bo : Int32) (tp : Nat) (ft : Int32) (wr0 : Nat) (wa : Nat) (at0 : Nat) (sp : Nat) (tk : Nat) (vl : Int32) (fi : Nat) (nm : Nat) (dp : Nat) (wy : Int32) (st : Int32) (aP : Nat) (aF : Nat) (aH : Nat) (aO : Nat) (ps : Nat) (mn : Nat) (go : Int32) (vi : Nat) (hM : g 114 = mob ad (nI (wn F.1)) (nI (wf F.1)) (nI (wh F.1)) (lN (wo F.1)) (nI (F.2.2.2)) la bo (nI (tp)) ft (nI (wr0)) (nI (wa)) (nI (at0)) (nI (sp)) (nI (tk)) vl (nI (fi)) (nI (nm)) (nI (dp)) wy st (nI (aP)) (nI (aF)) (nI (aH)) (lN aO) (nI (ps)) (nI (mn)) go (nI (vi))) (P : Nat → Nat) (hP9 : g 115 = .inl (cy 1, 8, .inl (fun x9 => nI (P x9)))) (hF : FOK F) (hPw : ∀ i, i < wn F.1 → P i = wp F.1 i) (OP : Nat → Nat) (hO1 : g 116 = .inl (cy 1, 12, .inl (fun x9 => nI (OP x9)))) (OF : Nat → Nat) (hO2 : g 117 = .inl (cy 1, 12, .inl (fun x9 => nI (OF x9)))) (OH : Nat → Nat) (hO3 : g 118 = .inl (cy 1, 12, .inl (fun x9 => nI (OH x9)))) (OO : Nat → Int64) (hO4 : g 119 = .inl (cy 2, 12, .inr (.inl OO))) (hUR : UR F OP OF OH OO) : Met l yX10_undo (WS yX10_undo cX10_undo 1 (some .int)) (rmF 1 22) (PP [.ref (ad 114)] D cy ad N g) (QI (fun r g1 => ∃ (P2 : Nat → Nat), (r = if F.2.2.2 = 0 then -4 else nI (F.2.2.2 - 1)) ∧ (∀ i, i < wn F.1 → P2 i = wp (bkF F).1 i) ∧ (UR (bkF F) OP OF OH OO) ∧ g1 114 = mob ad (nI (wn F.1)) (nI (wf (bkF F).1)) (nI (wh (bkF F).1)) (lN (wo (bkF F).1)) (nI ((bkF F).2.2.2)) la bo (nI (tp)) ft (nI (wr0)) (nI (wa)) (nI (at0)) (nI (sp)) (nI (tk)) vl (nI (fi)) (nI (nm)) (nI (dp)) wy st (nI (aP)) (nI (aF)) (nI (aH)) (lN aO) (nI (ps)) (nI (mn)) go (nI (vi)) ∧ g1 115 = .inl (cy 1, 8, .inl (fun x9 => nI (P2 x9))) ∧ (∀ j, j ≠ 114 → j ≠ 115 → g1 j = g j)) D ad N) 0 0 (AA ad N) := by
  refine mentry (by decide) (Nat.le_of_ble_eq_true rfl) (fun p e s m below meth c ls S hr hlk hnm hP hK hl => ?_)
  have S : CallFix p m c cX10_undo 1 s _ wsL_law RX10 := S
  have hx := S.1
  have hb := S.2.1
  have hl : lv_has ls 1 [(0, .ref (ad 114))] := hl
  have hI : MD (AA ad N) ad N := MD.in hinj
  have hS : va_S (AA ad N) s.heap s.heap [] := va_S.rf
  have hfr : ∀ j : Nat, g j = g j := fun _ => rfl
  have hw := hF.1
  have hn4 := hw.1.1
  have hn8 := hw.1.2
  have hpm := perm_P hw hPw
  have hf := lt256 hw.2.2.1 hn8
  have hh := lt256 hw.2.2.2.1 hn8
  have ho := hw.2.2.2.2.1
  have hun := hF.2.2.2
  have hP8 := P8 hw hPw
  have hpk := pk_24 hn8 hP8
  refine lv_aload_n hx hb dX10_undo_0 rfl (lv_at hl 0 rfl) ?_
  refine mg S hK hP (by omega) hM fd_X10_123 rfl dX10_undo_1 ?_
  refine lv_if_ne (tgt := 10) hx hb dX10_undo_4 (by decide) (fun c_4 => ?_) (fun c_4 => ?_)
  · skip
    have c_4 := (not_congr (z_eq (by omega))).mp c_4
    have hu := hUR (F.2.2.2 - 1) (by omega)
    have ew := bkF_w hF.2.2.1 hun c_4
    rw [ew] at hu
    have e4 : (bkF F).2.2.2 = F.2.2.2 - 1 := if_neg c_4
    have hw2 := (bkF_ok hF).1
    have hpq : ∀ i, i < wn F.1 → wp (bkF F).1 i < 8 := fun i hi => by have := hw2.2.1.2.1 i (by omega); omega
    have hpk2 := pk_24 hn8 hpq
    refine lv_aload_n hx hb dX10_undo_10 rfl (lv_at hl 0 rfl) ?_
    refine lv_dup hx hb dX10_undo_11 rfl ?_
    refine mg S hK hP (by omega) hM fd_X10_123 rfl dX10_undo_12 ?_
    refine lv_iconst (v := nI (1)) hx hb dX10_undo_15 (by decide) ?_
    refine lv_isub hx hb dX10_undo_16 ?_
    refine tpi (pk_sub (a := F.2.2.2) (b := 1) (by omega)) ?_
    refine mp S hK hP hI hS (by omega) hM fd_X10_123 rfl rfl (Nat.le_of_ble_eq_true rfl) dX10_undo_17 (fun g_1 H locs eg_1 hP hS => ?_)
    have h114_1 : g_1 114 = mob ad (nI (wn F.1)) (nI (wf F.1)) (nI (wh F.1)) (lN (wo F.1)) (nI (F.2.2.2 - 1)) la bo (nI (tp)) ft (nI (wr0)) (nI (wa)) (nI (at0)) (nI (sp)) (nI (tk)) vl (nI (fi)) (nI (nm)) (nI (dp)) wy st (nI (aP)) (nI (aF)) (nI (aH)) (lN aO) (nI (ps)) (nI (mn)) go (nI (vi)) := by rw [eg_1, va_up_self]; exact rfl
    have h115_1 : g_1 115 = .inl (cy 1, 8, .inl (fun x9 => nI (P x9))) := ((congrFun eg_1 _).trans (va_up_ne _ _ (by omega))).trans hP9
    have h116_1 : g_1 116 = .inl (cy 1, 12, .inl (fun x9 => nI (OP x9))) := ((congrFun eg_1 _).trans (va_up_ne _ _ (by omega))).trans hO1
    have h117_1 : g_1 117 = .inl (cy 1, 12, .inl (fun x9 => nI (OF x9))) := ((congrFun eg_1 _).trans (va_up_ne _ _ (by omega))).trans hO2
    have h118_1 : g_1 118 = .inl (cy 1, 12, .inl (fun x9 => nI (OH x9))) := ((congrFun eg_1 _).trans (va_up_ne _ _ (by omega))).trans hO3
    have h119_1 : g_1 119 = .inl (cy 2, 12, .inr (.inl OO)) := ((congrFun eg_1 _).trans (va_up_ne _ _ (by omega))).trans hO4
    have hfr_1 : ∀ j : Nat, j ≠ 114 → g_1 j = g j := fun j n0 => ((congrFun eg_1 _).trans (va_up_ne _ _ n0)).trans (hfr j )
    refine lv_aload_n hx hb dX10_undo_20 rfl (lv_at hl 0 rfl) ?_
    refine lv_aload_n hx hb dX10_undo_21 rfl (lv_at hl 0 rfl) ?_
    refine mg S hK hP (by omega) h114_1 fd_X10_23 rfl dX10_undo_22 ?_
    refine lv_aload_n hx hb dX10_undo_25 rfl (lv_at hl 0 rfl) ?_
    refine mg S hK hP (by omega) h114_1 fd_X10_123 rfl dX10_undo_26 ?_
    refine mial S hK hP (by omega) h116_1 (vp_in_nI (by omega) (by omega)) dX10_undo_29 ?_
    refine tpi (congrArg ((fun x9 => nI (OP x9))) (nI_clamp (by omega))) ?_
    refine tpi (congrArg nI hu.2.1) ?_
    refine kMv (As := [.int (nI (pk (wp (bkF F).1) (wn F.1)))]) (rest := []) S hK hP hS (fun _ h => h) (c_X10_unpack l D cy ad N g_1 hinj (by omega) (wn F.1) (wf F.1) (wh F.1) (wo F.1) (F.2.2.2 - 1) la bo tp ft wr0 wa at0 sp tk vl fi nm dp wy st aP aF aH aO ps mn go vi h114_1 hn4 hn8 P h115_1 (pk (wp (bkF F).1) (wn F.1)) hpk2) cv_X10_180 (by omega) h114_1 ⟨_, _, rfl⟩ ⟨rfl, rfl⟩ rfl hl.1 rfl (Nat.le_of_ble_eq_true rfl) ⟨Nat.zero_le _, Nat.zero_le _⟩ dX10_undo_30 (fun g_2 H locs q_2 hP hS => ?_)
    obtain ⟨h115_2, f_2⟩ := q_2
    have h114_2 : g_2 114 = mob ad (nI (wn F.1)) (nI (wf F.1)) (nI (wh F.1)) (lN (wo F.1)) (nI (F.2.2.2 - 1)) la bo (nI (tp)) ft (nI (wr0)) (nI (wa)) (nI (at0)) (nI (sp)) (nI (tk)) vl (nI (fi)) (nI (nm)) (nI (dp)) wy st (nI (aP)) (nI (aF)) (nI (aH)) (lN aO) (nI (ps)) (nI (mn)) go (nI (vi)) := (f_2 114 (by omega)).trans h114_1
    have h116_2 : g_2 116 = .inl (cy 1, 12, .inl (fun x9 => nI (OP x9))) := (f_2 116 (by omega)).trans h116_1
    have h117_2 : g_2 117 = .inl (cy 1, 12, .inl (fun x9 => nI (OF x9))) := (f_2 117 (by omega)).trans h117_1
    have h118_2 : g_2 118 = .inl (cy 1, 12, .inl (fun x9 => nI (OH x9))) := (f_2 118 (by omega)).trans h118_1
    have h119_2 : g_2 119 = .inl (cy 2, 12, .inr (.inl OO)) := (f_2 119 (by omega)).trans h119_1
    have hfr_2 : ∀ j : Nat, j ≠ 114 → j ≠ 115 → g_2 j = g j := fun j n0 n1 => (f_2 j n1).trans (hfr_1 j n0)
    refine lv_aload_n hx hb dX10_undo_33 rfl (lv_at hl 0 rfl) ?_
    refine lv_aload_n hx hb dX10_undo_34 rfl (lv_at hl 0 rfl) ?_
    refine mg S hK hP (by omega) h114_2 fd_X10_26 rfl dX10_undo_35 ?_
    refine lv_aload_n hx hb dX10_undo_38 rfl (lv_at hl 0 rfl) ?_
    refine mg S hK hP (by omega) h114_2 fd_X10_123 rfl dX10_undo_39 ?_
    refine mial S hK hP (by omega) h117_2 (vp_in_nI (by omega) (by omega)) dX10_undo_42 ?_
    refine tpi (congrArg ((fun x9 => nI (OF x9))) (nI_clamp (by omega))) ?_
    refine tpi (congrArg nI hu.2.2.1) ?_
    refine mp S hK hP hI hS (by omega) h114_2 fd_X10_17 rfl rfl (Nat.le_of_ble_eq_true rfl) dX10_undo_43 (fun g_3 H locs eg_3 hP hS => ?_)
    have h114_3 : g_3 114 = mob ad (nI (wn F.1)) (nI (wf (bkF F).1)) (nI (wh F.1)) (lN (wo F.1)) (nI (F.2.2.2 - 1)) la bo (nI (tp)) ft (nI (wr0)) (nI (wa)) (nI (at0)) (nI (sp)) (nI (tk)) vl (nI (fi)) (nI (nm)) (nI (dp)) wy st (nI (aP)) (nI (aF)) (nI (aH)) (lN aO) (nI (ps)) (nI (mn)) go (nI (vi)) := by rw [eg_3, va_up_self]; exact rfl
    have h115_3 : g_3 115 = .inl (cy 1, 8, .inl (fun x9 => nI ((upk (pk (wp (bkF F).1) (wn F.1)) P (wn F.1)) x9))) := ((congrFun eg_3 _).trans (va_up_ne _ _ (by omega))).trans h115_2
    have h116_3 : g_3 116 = .inl (cy 1, 12, .inl (fun x9 => nI (OP x9))) := ((congrFun eg_3 _).trans (va_up_ne _ _ (by omega))).trans h116_2
    have h117_3 : g_3 117 = .inl (cy 1, 12, .inl (fun x9 => nI (OF x9))) := ((congrFun eg_3 _).trans (va_up_ne _ _ (by omega))).trans h117_2
    have h118_3 : g_3 118 = .inl (cy 1, 12, .inl (fun x9 => nI (OH x9))) := ((congrFun eg_3 _).trans (va_up_ne _ _ (by omega))).trans h118_2
    have h119_3 : g_3 119 = .inl (cy 2, 12, .inr (.inl OO)) := ((congrFun eg_3 _).trans (va_up_ne _ _ (by omega))).trans h119_2
    have hfr_3 : ∀ j : Nat, j ≠ 114 → j ≠ 115 → g_3 j = g j := fun j n0 n1 => ((congrFun eg_3 _).trans (va_up_ne _ _ n0)).trans (hfr_2 j n0 n1)
    refine lv_aload_n hx hb dX10_undo_46 rfl (lv_at hl 0 rfl) ?_
    refine lv_aload_n hx hb dX10_undo_47 rfl (lv_at hl 0 rfl) ?_
    refine mg S hK hP (by omega) h114_3 fd_X10_29 rfl dX10_undo_48 ?_
    refine lv_aload_n hx hb dX10_undo_51 rfl (lv_at hl 0 rfl) ?_
    refine mg S hK hP (by omega) h114_3 fd_X10_123 rfl dX10_undo_52 ?_
    refine mial S hK hP (by omega) h118_3 (vp_in_nI (by omega) (by omega)) dX10_undo_55 ?_
    refine tpi (congrArg ((fun x9 => nI (OH x9))) (nI_clamp (by omega))) ?_
    refine tpi (congrArg nI hu.2.2.2.1) ?_
    refine mp S hK hP hI hS (by omega) h114_3 fd_X10_20 rfl rfl (Nat.le_of_ble_eq_true rfl) dX10_undo_56 (fun g_4 H locs eg_4 hP hS => ?_)
    have h114_4 : g_4 114 = mob ad (nI (wn F.1)) (nI (wf (bkF F).1)) (nI (wh (bkF F).1)) (lN (wo F.1)) (nI (F.2.2.2 - 1)) la bo (nI (tp)) ft (nI (wr0)) (nI (wa)) (nI (at0)) (nI (sp)) (nI (tk)) vl (nI (fi)) (nI (nm)) (nI (dp)) wy st (nI (aP)) (nI (aF)) (nI (aH)) (lN aO) (nI (ps)) (nI (mn)) go (nI (vi)) := by rw [eg_4, va_up_self]; exact rfl
    have h115_4 : g_4 115 = .inl (cy 1, 8, .inl (fun x9 => nI ((upk (pk (wp (bkF F).1) (wn F.1)) P (wn F.1)) x9))) := ((congrFun eg_4 _).trans (va_up_ne _ _ (by omega))).trans h115_3
    have h116_4 : g_4 116 = .inl (cy 1, 12, .inl (fun x9 => nI (OP x9))) := ((congrFun eg_4 _).trans (va_up_ne _ _ (by omega))).trans h116_3
    have h117_4 : g_4 117 = .inl (cy 1, 12, .inl (fun x9 => nI (OF x9))) := ((congrFun eg_4 _).trans (va_up_ne _ _ (by omega))).trans h117_3
    have h118_4 : g_4 118 = .inl (cy 1, 12, .inl (fun x9 => nI (OH x9))) := ((congrFun eg_4 _).trans (va_up_ne _ _ (by omega))).trans h118_3
    have h119_4 : g_4 119 = .inl (cy 2, 12, .inr (.inl OO)) := ((congrFun eg_4 _).trans (va_up_ne _ _ (by omega))).trans h119_3
    have hfr_4 : ∀ j : Nat, j ≠ 114 → j ≠ 115 → g_4 j = g j := fun j n0 n1 => ((congrFun eg_4 _).trans (va_up_ne _ _ n0)).trans (hfr_3 j n0 n1)
    refine lv_aload_n hx hb dX10_undo_59 rfl (lv_at hl 0 rfl) ?_
    refine lv_aload_n hx hb dX10_undo_60 rfl (lv_at hl 0 rfl) ?_
    refine mg S hK hP (by omega) h114_4 fd_X10_32 rfl dX10_undo_61 ?_
    refine lv_aload_n hx hb dX10_undo_64 rfl (lv_at hl 0 rfl) ?_
    refine mg S hK hP (by omega) h114_4 fd_X10_123 rfl dX10_undo_65 ?_
    refine mlal S hK hP (by omega) h119_4 (vp_in_nI (by omega) (by omega)) dX10_undo_68 ?_
    refine tpl (congrArg OO (nI_clamp (by omega))) ?_
    refine tpl (hu.2.2.2.2) ?_
    refine mp S hK hP hI hS (by omega) h114_4 fd_X10_119 rfl rfl (Nat.le_of_ble_eq_true rfl) dX10_undo_69 (fun g_5 H locs eg_5 hP hS => ?_)
    have h114_5 : g_5 114 = mob ad (nI (wn F.1)) (nI (wf (bkF F).1)) (nI (wh (bkF F).1)) (lN (wo (bkF F).1)) (nI (F.2.2.2 - 1)) la bo (nI (tp)) ft (nI (wr0)) (nI (wa)) (nI (at0)) (nI (sp)) (nI (tk)) vl (nI (fi)) (nI (nm)) (nI (dp)) wy st (nI (aP)) (nI (aF)) (nI (aH)) (lN aO) (nI (ps)) (nI (mn)) go (nI (vi)) := by rw [eg_5, va_up_self]; exact rfl
    have h115_5 : g_5 115 = .inl (cy 1, 8, .inl (fun x9 => nI ((upk (pk (wp (bkF F).1) (wn F.1)) P (wn F.1)) x9))) := ((congrFun eg_5 _).trans (va_up_ne _ _ (by omega))).trans h115_4
    have h116_5 : g_5 116 = .inl (cy 1, 12, .inl (fun x9 => nI (OP x9))) := ((congrFun eg_5 _).trans (va_up_ne _ _ (by omega))).trans h116_4
    have h117_5 : g_5 117 = .inl (cy 1, 12, .inl (fun x9 => nI (OF x9))) := ((congrFun eg_5 _).trans (va_up_ne _ _ (by omega))).trans h117_4
    have h118_5 : g_5 118 = .inl (cy 1, 12, .inl (fun x9 => nI (OH x9))) := ((congrFun eg_5 _).trans (va_up_ne _ _ (by omega))).trans h118_4
    have h119_5 : g_5 119 = .inl (cy 2, 12, .inr (.inl OO)) := ((congrFun eg_5 _).trans (va_up_ne _ _ (by omega))).trans h119_4
    have hfr_5 : ∀ j : Nat, j ≠ 114 → j ≠ 115 → g_5 j = g j := fun j n0 n1 => ((congrFun eg_5 _).trans (va_up_ne _ _ n0)).trans (hfr_4 j n0 n1)
    refine lv_aload_n hx hb dX10_undo_72 rfl (lv_at hl 0 rfl) ?_
    refine mg S hK hP (by omega) h114_5 fd_X10_123 rfl dX10_undo_73 ?_
    exact rMi S hr hlk hP hS ⟨_, (if_neg c_4).symm, (by intro i hi; rw [upk_pk hpq i hi]), (UR_b hF hUR).2, (by rw [e4]; exact h114_5), h115_5, hfr_5⟩ dX10_undo_76
  · skip
    have c_4 := (z_eq (by omega)).mp c_4
    have e0 : (bkF F).1 = F.1 := if_pos c_4
    have e4 : (bkF F).2.2.2 = F.2.2.2 := by rw [c_4]; exact if_pos c_4
    refine lv_bipush (v := (-4)) hx hb dX10_undo_7 (by decide) ?_
    exact rMi S hr hlk hP hS ⟨_, (if_pos c_4).symm, (by rw [e0]; exact hPw), (UR_b hF hUR).2, (by rw [e0, e4]; exact hM), hP9, (fun j n0 n1 => hfr j )⟩ dX10_undo_9
set_option maxHeartbeats 4000000 in
set_option maxRecDepth 100000 in
theorem c_X10_place (l : Launch) (D : va_G) (cy : Nat → ClassId) (ad : Nat → Nat) (N : Nat) (g : Nat → va_E) (hN : 145 ≤ N) (w : WT) (un : Nat) (la : Int32) (bo : Int32) (tp : Nat) (ft : Int32) (wr0 : Nat) (wa : Nat) (at0 : Nat) (sp : Nat) (tk : Nat) (vl : Int32) (fi : Nat) (nm : Nat) (dp : Nat) (wy : Int32) (st : Int32) (aP : Nat) (aF : Nat) (aH : Nat) (aO : Nat) (ps : Nat) (mn : Nat) (go : Int32) (vi : Nat) (hM : g 114 = mob ad (nI (wn w)) (nI (wf w)) (nI (wh w)) (lN (wo w)) (nI (un)) la bo (nI (tp)) ft (nI (wr0)) (nI (wa)) (nI (at0)) (nI (sp)) (nI (tk)) vl (nI (fi)) (nI (nm)) (nI (dp)) wy st (nI (aP)) (nI (aF)) (nI (aH)) (lN aO) (nI (ps)) (nI (mn)) go (nI (vi))) (P : Nat → Nat) (hP9 : g 115 = .inl (cy 1, 8, .inl (fun x9 => nI (P x9)))) (hw : WOK w) (hPw : ∀ i, i < wn w → P i = wp w i) (x0 : Int32) (what : Int32) : Met l yX10_place (WS yX10_place cX10_place 4 (some .int)) (rmF 1 25) (PP [.ref (ad 114), .int x0, .int what] D cy ad N g) (vp_Si (fun r => r = plA w x0 what)) 0 0 (fun _ => False) := by
  refine mentry (by decide) (Nat.le_of_ble_eq_true rfl) (fun p e s m below meth c ls S hr hlk hnm hP hK hl => ?_)
  have S : CallFix p m c cX10_place 4 s _ wsL_law RX10 := S
  have hx := S.1
  have hb := S.2.1
  have hl : lv_has ls 4 [(0, .ref (ad 114)), (1, .int x0), (2, .int what)] := hl
  have hn4 := hw.1.1
  have hn8 := hw.1.2
  have hpm := perm_P hw hPw
  have hf := lt256 hw.2.2.1 hn8
  have hh := lt256 hw.2.2.2.1 hn8
  have ho := hw.2.2.2.2.1
  refine lv_iload_n hx hb dX10_place_0 rfl (lv_at hl 1 rfl) ?_
  refine lv_i2l hx hb dX10_place_1 rfl ?_
  refine lv_lconst (v := lN 0) hx hb dX10_place_2 (by decide) ?_
  refine lv_aload_n hx hb dX10_place_3 rfl (lv_at hl 0 rfl) ?_
  refine mg S hK hP (by omega) hM fd_X10_7 rfl dX10_place_4 ?_
  refine lv_iconst (v := nI (1)) hx hb dX10_place_7 (by decide) ?_
  refine lv_isub hx hb dX10_place_8 ?_
  refine tpi (pk_sub (a := wn w) (b := 1) (by omega)) ?_
  refine lv_i2l hx hb dX10_place_9 rfl ?_
  refine tpl (nI_l (by omega)) ?_
  refine kSi (As := [.long x0.toInt64, .long (lN 0), .long (lN (wn w - 1))]) (rest := []) S hK hP (c_X10_in l D cy ad N g x0.toInt64 (lN 0) (lN (wn w - 1))) cs_X10_115 ⟨rfl, rfl⟩ rfl hl.1 rfl (Nat.le_of_ble_eq_true rfl) ⟨Nat.zero_le _, Nat.zero_le _⟩ dX10_place_10 (fun r_10 q_10 => ?_)
  subst q_10
  refine tpi (ifC (in_0 (by omega) (by omega))) ?_
  refine lv_if_eq (tgt := 26) hx hb dX10_place_13 (by decide) (fun c_13 => ?_) (fun c_13 => ?_)
  · skip
    have c_13 := bz_eq.mp c_13
    have hJ : ¬ isI x0 (wn w) := c_13
    refine lv_iconst (v := (-1)) hx hb dX10_place_26 (by decide) ?_
    exact rSi S hr hlk (plA_b hJ).symm dX10_place_27
  · skip
    have c_13 := bz_ne.mp c_13
    obtain ⟨p0, hp0b, rfl⟩ := isI_nat (by omega) c_13
    have hJ := c_13
    have hp031 : p0 < 2 ^ 31 := by omega
    have hdp := hpm.1 p0 hp0b
    refine lv_iload_n hx hb dX10_place_16 rfl (lv_at hl 2 rfl) ?_
    refine lv_i2l hx hb dX10_place_17 rfl ?_
    refine lv_lconst (v := lN 0) hx hb dX10_place_18 (by decide) ?_
    refine lv_lconst (v := lN 1) hx hb dX10_place_19 (by decide) ?_
    refine kSi (As := [.long what.toInt64, .long (lN 0), .long (lN 1)]) (rest := []) S hK hP (c_X10_in l D cy ad N g what.toInt64 (lN 0) (lN 1)) cs_X10_115 ⟨rfl, rfl⟩ rfl hl.1 rfl (Nat.le_of_ble_eq_true rfl) ⟨Nat.zero_le _, Nat.zero_le _⟩ dX10_place_20 (fun r_20 q_20 => ?_)
    subst q_20
    refine tpi (ifC (in_45 (by omega) (by omega))) ?_
    refine lv_if_ne (tgt := 28) hx hb dX10_place_23 (by decide) (fun c_23 => ?_) (fun c_23 => ?_)
    · skip
      have c_23 := bz_ne.mp c_23
      obtain ⟨wj, hwjb, rfl⟩ := nI_of (x := what) c_23.1
      have hwj : wj ≤ 1 := by have := (not_congr (nI_ltI (by omega) hwjb)).mp c_23.2; omega
      refine lv_aload_n hx hb dX10_place_28 rfl (lv_at hl 0 rfl) ?_
      refine lv_iload_n hx hb dX10_place_29 rfl (lv_at hl 1 rfl) ?_
      refine kVi (As := [.int (nI (p0))]) (rest := []) S hK hP (c_X10_dancerAt l D cy ad N g (by omega) (wn w) (wf w) (wh w) (wo w) un la bo tp ft wr0 wa at0 sp tk vl fi nm dp wy st aP aF aH aO ps mn go vi hM hn4 hn8 P hP9 (wd w) hpm p0 hp0b) cv_X10_135 (by omega) hM ⟨_, _, rfl⟩ ⟨rfl, rfl⟩ rfl hl.1 rfl (Nat.le_of_ble_eq_true rfl) ⟨Nat.zero_le _, Nat.zero_le _⟩ dX10_place_30 (fun r_30 q_30 => ?_)
      subst q_30
      refine lv_istore_n (lv' := [(3, .int (nI ((wd w) p0))), (0, .ref (ad 114)), (1, .int (nI (p0))), (2, .int (nI (wj)))]) hx hb dX10_place_33 rfl hl (by decide) rfl (fun ls hl => ?_)
      refine lv_iload_n hx hb dX10_place_34 rfl (lv_at hl 3 rfl) ?_
      refine lv_if_ne (tgt := 42) hx hb dX10_place_35 (by decide) (fun c_35 => ?_) (fun c_35 => ?_)
      · skip
        have c_35 := (not_congr (z_eq (by omega))).mp c_35
        refine lv_aload_n hx hb dX10_place_42 rfl (lv_at hl 1 rfl) ?_
        refine mg S hK hP (by omega) hM fd_X10_17 rfl dX10_place_43 ?_
        refine lv_iload_n hx hb dX10_place_46 rfl (lv_at hl 0 rfl) ?_
        refine lv_ishr hx hb dX10_place_47 ?_
        refine tpi (shrN (by omega) (by omega)) ?_
        refine lv_iconst (v := nI (1)) hx hb dX10_place_48 (by decide) ?_
        refine lv_iand hx hb dX10_place_49 ?_
        refine tpi (nx_and ((wf w) / 2 ^ ((wd w) p0)) 1) ?_
        exact rSi S hr hlk (by rw [show wj = 1 by omega]; exact (plA_1 hn8 hp0b).symm) dX10_place_50
      · skip
        have c_35 := (z_eq (by omega)).mp c_35
        refine lv_iload_n hx hb dX10_place_38 rfl (lv_at hl 0 rfl) ?_
        refine lv_goto (tgt := 50) hx hb dX10_place_39 (by decide) ?_
        exact rSi S hr hlk (by rw [c_35]; exact (plA_0 hn8 hp0b).symm) dX10_place_50
    · skip
      have c_23 := bz_eq.mp c_23
      have h01 : ¬ what = 0 ∧ ¬ what = 1 := ⟨fun q => c_23 (by rw [q]; decide), fun q => c_23 (by rw [q]; decide)⟩
      refine lv_iconst (v := (-1)) hx hb dX10_place_26 (by decide) ?_
      exact rSi S hr hlk (plA_d hn8 hp0b h01.1 h01.2).symm dX10_place_27
set_option maxHeartbeats 4000000 in
set_option maxRecDepth 100000 in
theorem c_X10_keep (l : Launch) (D : va_G) (cy : Nat → ClassId) (ad : Nat → Nat) (N : Nat) (g : Nat → va_E) (hinj : ∀ i j : Nat, i < N → j < N → ad i = ad j → i = j) (hN : 145 ≤ N) (w : WT) (un : Nat) (la : Int32) (bo : Int32) (tp : Nat) (ft : Int32) (wr0 : Nat) (wa : Nat) (at0 : Nat) (sp : Nat) (tk : Nat) (vl : Int32) (fi : Nat) (nm : Nat) (dp : Nat) (wy : Int32) (st : Int32) (aP : Nat) (aF : Nat) (aH : Nat) (aO : Nat) (ps : Nat) (mn : Nat) (go : Int32) (vi : Nat) (hM : g 114 = mob ad (nI (wn w)) (nI (wf w)) (nI (wh w)) (lN (wo w)) (nI (un)) la bo (nI (tp)) ft (nI (wr0)) (nI (wa)) (nI (at0)) (nI (sp)) (nI (tk)) vl (nI (fi)) (nI (nm)) (nI (dp)) wy st (nI (aP)) (nI (aF)) (nI (aH)) (lN aO) (nI (ps)) (nI (mn)) go (nI (vi))) (P : Nat → Nat) (hP9 : g 115 = .inl (cy 1, 8, .inl (fun x9 => nI (P x9)))) (hw : WOK w) (hPw : ∀ i, i < wn w → P i = wp w i) (QP : Nat → Nat) (hq1 : g 130 = .inl (cy 1, 6, .inl (fun x9 => nI (QP x9)))) (QF : Nat → Nat) (hq2 : g 131 = .inl (cy 1, 6, .inl (fun x9 => nI (QF x9)))) (QH : Nat → Nat) (hq3 : g 132 = .inl (cy 1, 6, .inl (fun x9 => nI (QH x9)))) (QO : Nat → Int64) (hq4 : g 133 = .inl (cy 2, 6, .inr (.inl QO))) (Po : Nat → WT) (hps : ps ≤ 6) (hPR : PR ps (wn w) QP QF QH QO Po) : Met l yX10_keep (WS yX10_keep cX10_keep 1 (some .int)) (rmF 1 22) (PP [.ref (ad 114)] D cy ad N g) (QI (fun r g1 => ∃ (QP2 : Nat → Nat), ∃ (QF2 : Nat → Nat), ∃ (QH2 : Nat → Nat), ∃ (QO2 : Nat → Int64), (r = if ps < 6 then nI ps else -3) ∧ (PR (if ps < 6 then ps + 1 else ps) (wn w) QP2 QF2 QH2 QO2 (if ps < 6 then va_up Po ps w else Po)) ∧ g1 114 = mob ad (nI (wn w)) (nI (wf w)) (nI (wh w)) (lN (wo w)) (nI (un)) la bo (nI (tp)) ft (nI (wr0)) (nI (wa)) (nI (at0)) (nI (sp)) (nI (tk)) vl (nI (fi)) (nI (nm)) (nI (dp)) wy st (nI (aP)) (nI (aF)) (nI (aH)) (lN aO) (nI (if ps < 6 then ps + 1 else ps)) (nI (mn)) go (nI (vi)) ∧ g1 130 = .inl (cy 1, 6, .inl (fun x9 => nI (QP2 x9))) ∧ g1 131 = .inl (cy 1, 6, .inl (fun x9 => nI (QF2 x9))) ∧ g1 132 = .inl (cy 1, 6, .inl (fun x9 => nI (QH2 x9))) ∧ g1 133 = .inl (cy 2, 6, .inr (.inl QO2)) ∧ (∀ j, j ≠ 114 → j ≠ 130 → j ≠ 131 → j ≠ 132 → j ≠ 133 → g1 j = g j)) D ad N) 0 0 (AA ad N) := by
  refine mentry (by decide) (Nat.le_of_ble_eq_true rfl) (fun p e s m below meth c ls S hr hlk hnm hP hK hl => ?_)
  have S : CallFix p m c cX10_keep 1 s _ wsL_law RX10 := S
  have hx := S.1
  have hb := S.2.1
  have hl : lv_has ls 1 [(0, .ref (ad 114))] := hl
  have hI : MD (AA ad N) ad N := MD.in hinj
  have hS : va_S (AA ad N) s.heap s.heap [] := va_S.rf
  have hfr : ∀ j : Nat, g j = g j := fun _ => rfl
  have hn4 := hw.1.1
  have hn8 := hw.1.2
  have hpm := perm_P hw hPw
  have hf := lt256 hw.2.2.1 hn8
  have hh := lt256 hw.2.2.2.1 hn8
  have ho := hw.2.2.2.2.1
  refine lv_aload_n hx hb dX10_keep_0 rfl (lv_at hl 0 rfl) ?_
  refine mg S hK hP (by omega) hM fd_X10_126 rfl dX10_keep_1 ?_
  refine lv_bipush (v := nI (6)) hx hb dX10_keep_4 (by decide) ?_
  refine lv_icmp_ne (tgt := 12) hx hb dX10_keep_6 (by decide) (fun c_6 => ?_) (fun c_6 => ?_)
  · skip
    have c_6 := (not_congr (nI_eq (by omega) (by omega))).mp c_6
    have h6 : ps < 6 := by omega
    refine lv_aload_n hx hb dX10_keep_12 rfl (lv_at hl 0 rfl) ?_
    refine mg S hK hP (by omega) hM fd_X10_66 rfl dX10_keep_13 ?_
    refine lv_aload_n hx hb dX10_keep_16 rfl (lv_at hl 0 rfl) ?_
    refine mg S hK hP (by omega) hM fd_X10_126 rfl dX10_keep_17 ?_
    refine lv_aload_n hx hb dX10_keep_20 rfl (lv_at hl 0 rfl) ?_
    refine kVi (As := []) (rest := [.int (nI (ps)), .ref (ad 130)]) S hK hP (c_X10_packed l D cy ad N g (by omega) (wn w) (wf w) (wh w) (wo w) un la bo tp ft wr0 wa at0 sp tk vl fi nm dp wy st aP aF aH aO ps mn go vi hM hn4 hn8 P hP9) cv_X10_153 (by omega) hM ⟨_, _, rfl⟩ ⟨rfl, rfl⟩ rfl hl.1 rfl (Nat.le_of_ble_eq_true rfl) ⟨Nat.zero_le _, Nat.zero_le _⟩ dX10_keep_21 (fun r_21 q_21 => ?_)
    subst q_21
    refine mias S hK hP hI hS (by omega) hq1 (vp_in_nI (by omega) (by omega)) dX10_keep_24 (fun g_1 H locs eg_1 hP hS => ?_)
    have h130_1 : g_1 130 = .inl (cy 1, 6, .inl (fun x9 => nI ((va_up QP ps (pk P (wn w))) x9))) := by rw [eg_1, va_up_self]; exact (arrN_up (by omega))
    have h114_1 : g_1 114 = mob ad (nI (wn w)) (nI (wf w)) (nI (wh w)) (lN (wo w)) (nI (un)) la bo (nI (tp)) ft (nI (wr0)) (nI (wa)) (nI (at0)) (nI (sp)) (nI (tk)) vl (nI (fi)) (nI (nm)) (nI (dp)) wy st (nI (aP)) (nI (aF)) (nI (aH)) (lN aO) (nI (ps)) (nI (mn)) go (nI (vi)) := ((congrFun eg_1 _).trans (va_up_ne _ _ (by omega))).trans hM
    have h115_1 : g_1 115 = .inl (cy 1, 8, .inl (fun x9 => nI (P x9))) := ((congrFun eg_1 _).trans (va_up_ne _ _ (by omega))).trans hP9
    have h131_1 : g_1 131 = .inl (cy 1, 6, .inl (fun x9 => nI (QF x9))) := ((congrFun eg_1 _).trans (va_up_ne _ _ (by omega))).trans hq2
    have h132_1 : g_1 132 = .inl (cy 1, 6, .inl (fun x9 => nI (QH x9))) := ((congrFun eg_1 _).trans (va_up_ne _ _ (by omega))).trans hq3
    have h133_1 : g_1 133 = .inl (cy 2, 6, .inr (.inl QO)) := ((congrFun eg_1 _).trans (va_up_ne _ _ (by omega))).trans hq4
    have hfr_1 : ∀ j : Nat, j ≠ 130 → g_1 j = g j := fun j n0 => ((congrFun eg_1 _).trans (va_up_ne _ _ n0)).trans (hfr j )
    refine lv_aload_n hx hb dX10_keep_25 rfl (lv_at hl 0 rfl) ?_
    refine mg S hK hP (by omega) h114_1 fd_X10_69 rfl dX10_keep_26 ?_
    refine lv_aload_n hx hb dX10_keep_29 rfl (lv_at hl 0 rfl) ?_
    refine mg S hK hP (by omega) h114_1 fd_X10_126 rfl dX10_keep_30 ?_
    refine lv_aload_n hx hb dX10_keep_33 rfl (lv_at hl 0 rfl) ?_
    refine mg S hK hP (by omega) h114_1 fd_X10_17 rfl dX10_keep_34 ?_
    refine mias S hK hP hI hS (by omega) h131_1 (vp_in_nI (by omega) (by omega)) dX10_keep_37 (fun g_2 H locs eg_2 hP hS => ?_)
    have h131_2 : g_2 131 = .inl (cy 1, 6, .inl (fun x9 => nI ((va_up QF ps (wf w)) x9))) := by rw [eg_2, va_up_self]; exact (arrN_up (by omega))
    have h114_2 : g_2 114 = mob ad (nI (wn w)) (nI (wf w)) (nI (wh w)) (lN (wo w)) (nI (un)) la bo (nI (tp)) ft (nI (wr0)) (nI (wa)) (nI (at0)) (nI (sp)) (nI (tk)) vl (nI (fi)) (nI (nm)) (nI (dp)) wy st (nI (aP)) (nI (aF)) (nI (aH)) (lN aO) (nI (ps)) (nI (mn)) go (nI (vi)) := ((congrFun eg_2 _).trans (va_up_ne _ _ (by omega))).trans h114_1
    have h115_2 : g_2 115 = .inl (cy 1, 8, .inl (fun x9 => nI (P x9))) := ((congrFun eg_2 _).trans (va_up_ne _ _ (by omega))).trans h115_1
    have h130_2 : g_2 130 = .inl (cy 1, 6, .inl (fun x9 => nI ((va_up QP ps (pk P (wn w))) x9))) := ((congrFun eg_2 _).trans (va_up_ne _ _ (by omega))).trans h130_1
    have h132_2 : g_2 132 = .inl (cy 1, 6, .inl (fun x9 => nI (QH x9))) := ((congrFun eg_2 _).trans (va_up_ne _ _ (by omega))).trans h132_1
    have h133_2 : g_2 133 = .inl (cy 2, 6, .inr (.inl QO)) := ((congrFun eg_2 _).trans (va_up_ne _ _ (by omega))).trans h133_1
    have hfr_2 : ∀ j : Nat, j ≠ 130 → j ≠ 131 → g_2 j = g j := fun j n0 n1 => ((congrFun eg_2 _).trans (va_up_ne _ _ n1)).trans (hfr_1 j n0)
    refine lv_aload_n hx hb dX10_keep_38 rfl (lv_at hl 0 rfl) ?_
    refine mg S hK hP (by omega) h114_2 fd_X10_72 rfl dX10_keep_39 ?_
    refine lv_aload_n hx hb dX10_keep_42 rfl (lv_at hl 0 rfl) ?_
    refine mg S hK hP (by omega) h114_2 fd_X10_126 rfl dX10_keep_43 ?_
    refine lv_aload_n hx hb dX10_keep_46 rfl (lv_at hl 0 rfl) ?_
    refine mg S hK hP (by omega) h114_2 fd_X10_20 rfl dX10_keep_47 ?_
    refine mias S hK hP hI hS (by omega) h132_2 (vp_in_nI (by omega) (by omega)) dX10_keep_50 (fun g_3 H locs eg_3 hP hS => ?_)
    have h132_3 : g_3 132 = .inl (cy 1, 6, .inl (fun x9 => nI ((va_up QH ps (wh w)) x9))) := by rw [eg_3, va_up_self]; exact (arrN_up (by omega))
    have h114_3 : g_3 114 = mob ad (nI (wn w)) (nI (wf w)) (nI (wh w)) (lN (wo w)) (nI (un)) la bo (nI (tp)) ft (nI (wr0)) (nI (wa)) (nI (at0)) (nI (sp)) (nI (tk)) vl (nI (fi)) (nI (nm)) (nI (dp)) wy st (nI (aP)) (nI (aF)) (nI (aH)) (lN aO) (nI (ps)) (nI (mn)) go (nI (vi)) := ((congrFun eg_3 _).trans (va_up_ne _ _ (by omega))).trans h114_2
    have h115_3 : g_3 115 = .inl (cy 1, 8, .inl (fun x9 => nI (P x9))) := ((congrFun eg_3 _).trans (va_up_ne _ _ (by omega))).trans h115_2
    have h130_3 : g_3 130 = .inl (cy 1, 6, .inl (fun x9 => nI ((va_up QP ps (pk P (wn w))) x9))) := ((congrFun eg_3 _).trans (va_up_ne _ _ (by omega))).trans h130_2
    have h131_3 : g_3 131 = .inl (cy 1, 6, .inl (fun x9 => nI ((va_up QF ps (wf w)) x9))) := ((congrFun eg_3 _).trans (va_up_ne _ _ (by omega))).trans h131_2
    have h133_3 : g_3 133 = .inl (cy 2, 6, .inr (.inl QO)) := ((congrFun eg_3 _).trans (va_up_ne _ _ (by omega))).trans h133_2
    have hfr_3 : ∀ j : Nat, j ≠ 130 → j ≠ 131 → j ≠ 132 → g_3 j = g j := fun j n0 n1 n2 => ((congrFun eg_3 _).trans (va_up_ne _ _ n2)).trans (hfr_2 j n0 n1)
    refine lv_aload_n hx hb dX10_keep_51 rfl (lv_at hl 0 rfl) ?_
    refine mg S hK hP (by omega) h114_3 fd_X10_75 rfl dX10_keep_52 ?_
    refine lv_aload_n hx hb dX10_keep_55 rfl (lv_at hl 0 rfl) ?_
    refine mg S hK hP (by omega) h114_3 fd_X10_126 rfl dX10_keep_56 ?_
    refine lv_aload_n hx hb dX10_keep_59 rfl (lv_at hl 0 rfl) ?_
    refine mg S hK hP (by omega) h114_3 fd_X10_119 rfl dX10_keep_60 ?_
    refine mlas S hK hP hI hS (by omega) h133_3 (vp_in_nI (by omega) (by omega)) dX10_keep_63 (fun g_4 H locs eg_4 hP hS => ?_)
    have h133_4 : g_4 133 = .inl (cy 2, 6, .inr (.inl (vp_updL QO ps (lN (wo w))))) := by rw [eg_4, va_up_self]; exact (arrL_up (by omega))
    have h114_4 : g_4 114 = mob ad (nI (wn w)) (nI (wf w)) (nI (wh w)) (lN (wo w)) (nI (un)) la bo (nI (tp)) ft (nI (wr0)) (nI (wa)) (nI (at0)) (nI (sp)) (nI (tk)) vl (nI (fi)) (nI (nm)) (nI (dp)) wy st (nI (aP)) (nI (aF)) (nI (aH)) (lN aO) (nI (ps)) (nI (mn)) go (nI (vi)) := ((congrFun eg_4 _).trans (va_up_ne _ _ (by omega))).trans h114_3
    have h115_4 : g_4 115 = .inl (cy 1, 8, .inl (fun x9 => nI (P x9))) := ((congrFun eg_4 _).trans (va_up_ne _ _ (by omega))).trans h115_3
    have h130_4 : g_4 130 = .inl (cy 1, 6, .inl (fun x9 => nI ((va_up QP ps (pk P (wn w))) x9))) := ((congrFun eg_4 _).trans (va_up_ne _ _ (by omega))).trans h130_3
    have h131_4 : g_4 131 = .inl (cy 1, 6, .inl (fun x9 => nI ((va_up QF ps (wf w)) x9))) := ((congrFun eg_4 _).trans (va_up_ne _ _ (by omega))).trans h131_3
    have h132_4 : g_4 132 = .inl (cy 1, 6, .inl (fun x9 => nI ((va_up QH ps (wh w)) x9))) := ((congrFun eg_4 _).trans (va_up_ne _ _ (by omega))).trans h132_3
    have hfr_4 : ∀ j : Nat, j ≠ 130 → j ≠ 131 → j ≠ 132 → j ≠ 133 → g_4 j = g j := fun j n0 n1 n2 n3 => ((congrFun eg_4 _).trans (va_up_ne _ _ n3)).trans (hfr_3 j n0 n1 n2)
    refine lv_aload_n hx hb dX10_keep_64 rfl (lv_at hl 0 rfl) ?_
    refine lv_dup hx hb dX10_keep_65 rfl ?_
    refine mg S hK hP (by omega) h114_4 fd_X10_126 rfl dX10_keep_66 ?_
    refine lv_iconst (v := nI (1)) hx hb dX10_keep_69 (by decide) ?_
    refine lv_iadd hx hb dX10_keep_70 ?_
    refine tpi (nI_add ps 1) ?_
    refine mp S hK hP hI hS (by omega) h114_4 fd_X10_126 rfl rfl (Nat.le_of_ble_eq_true rfl) dX10_keep_71 (fun g_5 H locs eg_5 hP hS => ?_)
    have h114_5 : g_5 114 = mob ad (nI (wn w)) (nI (wf w)) (nI (wh w)) (lN (wo w)) (nI (un)) la bo (nI (tp)) ft (nI (wr0)) (nI (wa)) (nI (at0)) (nI (sp)) (nI (tk)) vl (nI (fi)) (nI (nm)) (nI (dp)) wy st (nI (aP)) (nI (aF)) (nI (aH)) (lN aO) (nI (ps + 1)) (nI (mn)) go (nI (vi)) := by rw [eg_5, va_up_self]; exact rfl
    have h115_5 : g_5 115 = .inl (cy 1, 8, .inl (fun x9 => nI (P x9))) := ((congrFun eg_5 _).trans (va_up_ne _ _ (by omega))).trans h115_4
    have h130_5 : g_5 130 = .inl (cy 1, 6, .inl (fun x9 => nI ((va_up QP ps (pk P (wn w))) x9))) := ((congrFun eg_5 _).trans (va_up_ne _ _ (by omega))).trans h130_4
    have h131_5 : g_5 131 = .inl (cy 1, 6, .inl (fun x9 => nI ((va_up QF ps (wf w)) x9))) := ((congrFun eg_5 _).trans (va_up_ne _ _ (by omega))).trans h131_4
    have h132_5 : g_5 132 = .inl (cy 1, 6, .inl (fun x9 => nI ((va_up QH ps (wh w)) x9))) := ((congrFun eg_5 _).trans (va_up_ne _ _ (by omega))).trans h132_4
    have h133_5 : g_5 133 = .inl (cy 2, 6, .inr (.inl (vp_updL QO ps (lN (wo w))))) := ((congrFun eg_5 _).trans (va_up_ne _ _ (by omega))).trans h133_4
    have hfr_5 : ∀ j : Nat, j ≠ 130 → j ≠ 131 → j ≠ 132 → j ≠ 133 → j ≠ 114 → g_5 j = g j := fun j n0 n1 n2 n3 n4 => ((congrFun eg_5 _).trans (va_up_ne _ _ n4)).trans (hfr_4 j n0 n1 n2 n3)
    refine lv_aload_n hx hb dX10_keep_74 rfl (lv_at hl 0 rfl) ?_
    refine mg S hK hP (by omega) h114_5 fd_X10_126 rfl dX10_keep_75 ?_
    refine lv_iconst (v := nI (1)) hx hb dX10_keep_78 (by decide) ?_
    refine lv_isub hx hb dX10_keep_79 ?_
    refine tpi (pk_sub (a := ps + 1) (b := 1) (by omega)) ?_
    refine tpi (by rw [Nat.add_sub_cancel]) ?_
    exact rMi S hr hlk hP hS ⟨_, _, _, _, (if_pos h6).symm, (by rw [if_pos h6, if_pos h6]; exact PR_up hPR hw rfl (pk_congr hPw)), (by rw [if_pos h6]; exact h114_5), h130_5, h131_5, h132_5, h133_5, (fun j n0 n1 n2 n3 n4 => hfr_5 j (by omega) (by omega) (by omega) (by omega) (by omega))⟩ dX10_keep_80
  · skip
    have c_6 := (nI_eq (by omega) (by omega)).mp c_6
    have h6 : ¬ ps < 6 := by omega
    refine lv_bipush (v := (-3)) hx hb dX10_keep_9 (by decide) ?_
    exact rMi S hr hlk hP hS ⟨_, _, _, _, (if_neg h6).symm, (by rw [if_neg h6, if_neg h6]; exact hPR), (by rw [if_neg h6]; exact hM), hq1, hq2, hq3, hq4, (fun j n0 n1 n2 n3 n4 => hfr j )⟩ dX10_keep_11
set_option maxHeartbeats 4000000 in
set_option maxRecDepth 100000 in
theorem c_X10_stand (l : Launch) (D : va_G) (cy : Nat → ClassId) (ad : Nat → Nat) (N : Nat) (g : Nat → va_E) (hinj : ∀ i j : Nat, i < N → j < N → ad i = ad j → i = j) (hN : 145 ≤ N) (w : WT) (un : Nat) (la : Int32) (bo : Int32) (tp : Nat) (ft : Int32) (wr0 : Nat) (wa : Nat) (at0 : Nat) (sp : Nat) (tk : Nat) (vl : Int32) (fi : Nat) (nm : Nat) (dp : Nat) (wy : Int32) (st : Int32) (aP : Nat) (aF : Nat) (aH : Nat) (aO : Nat) (ps : Nat) (mn : Nat) (go : Int32) (vi : Nat) (hM : g 114 = mob ad (nI (wn w)) (nI (wf w)) (nI (wh w)) (lN (wo w)) (nI (un)) la bo (nI (tp)) ft (nI (wr0)) (nI (wa)) (nI (at0)) (nI (sp)) (nI (tk)) vl (nI (fi)) (nI (nm)) (nI (dp)) wy st (nI (aP)) (nI (aF)) (nI (aH)) (lN aO) (nI (ps)) (nI (mn)) go (nI (vi))) (P : Nat → Nat) (hP9 : g 115 = .inl (cy 1, 8, .inl (fun x9 => nI (P x9)))) (hw : WOK w) (hPw : ∀ i, i < wn w → P i = wp w i) (QP : Nat → Nat) (hq1 : g 130 = .inl (cy 1, 6, .inl (fun x9 => nI (QP x9)))) (QF : Nat → Nat) (hq2 : g 131 = .inl (cy 1, 6, .inl (fun x9 => nI (QF x9)))) (QH : Nat → Nat) (hq3 : g 132 = .inl (cy 1, 6, .inl (fun x9 => nI (QH x9)))) (QO : Nat → Int64) (hq4 : g 133 = .inl (cy 2, 6, .inr (.inl QO))) (Po : Nat → WT) (hps : ps ≤ 6) (hPR : PR ps (wn w) QP QF QH QO Po) (x0 : Int32) : Met l yX10_stand (WS yX10_stand cX10_stand 2 (some .int)) (rmF 2 46) (PP [.ref (ad 114), .int x0] D cy ad N g) (QI (fun r g1 => ∃ (P2 : Nat → Nat), (r = if isI x0 ps then 1 else -1) ∧ (∀ i, i < wn w → P2 i = wp (if isI x0 ps then Po x0.toNatClampNeg else w) i) ∧ g1 114 = mob ad (nI (wn w)) (nI (wf (if isI x0 ps then Po x0.toNatClampNeg else w))) (nI (wh (if isI x0 ps then Po x0.toNatClampNeg else w))) (lN (wo (if isI x0 ps then Po x0.toNatClampNeg else w))) (nI (if isI x0 ps then 0 else un)) la bo (nI (tp)) ft (nI (wr0)) (nI (wa)) (nI (at0)) (nI (sp)) (nI (tk)) vl (nI (fi)) (nI (nm)) (nI (dp)) wy st (nI (aP)) (nI (aF)) (nI (aH)) (lN aO) (nI (ps)) (nI (mn)) go (nI (vi)) ∧ g1 115 = .inl (cy 1, 8, .inl (fun x9 => nI (P2 x9))) ∧ (∀ j, j ≠ 114 → j ≠ 115 → g1 j = g j)) D ad N) 0 0 (AA ad N) := by
  refine mentry (by decide) (Nat.le_of_ble_eq_true rfl) (fun p e s m below meth c ls S hr hlk hnm hP hK hl => ?_)
  have S : CallFix p m c cX10_stand 2 s _ wsL_law RX10 := S
  have hx := S.1
  have hb := S.2.1
  have hl : lv_has ls 2 [(0, .ref (ad 114)), (1, .int x0)] := hl
  have hI : MD (AA ad N) ad N := MD.in hinj
  have hS : va_S (AA ad N) s.heap s.heap [] := va_S.rf
  have hfr : ∀ j : Nat, g j = g j := fun _ => rfl
  have hn4 := hw.1.1
  have hn8 := hw.1.2
  have hpm := perm_P hw hPw
  have hf := lt256 hw.2.2.1 hn8
  have hh := lt256 hw.2.2.2.1 hn8
  have ho := hw.2.2.2.2.1
  refine lv_aload_n hx hb dX10_stand_0 rfl (lv_at hl 0 rfl) ?_
  refine lv_iload_n hx hb dX10_stand_1 rfl (lv_at hl 1 rfl) ?_
  refine kVi (As := [.int x0]) (rest := []) S hK hP (c_X10_isPose l D cy ad N g (by omega) (wn w) (wf w) (wh w) (wo w) un la bo tp ft wr0 wa at0 sp tk vl fi nm dp wy st aP aF aH aO ps mn go vi hM hps x0) cv_X10_327 (by omega) hM ⟨_, _, rfl⟩ ⟨rfl, rfl⟩ rfl hl.1 rfl (Nat.le_of_ble_eq_true rfl) ⟨Nat.zero_le _, Nat.zero_le _⟩ dX10_stand_2 (fun r_2 q_2 => ?_)
  subst q_2
  refine lv_if_ne (tgt := 10) hx hb dX10_stand_5 (by decide) (fun c_5 => ?_) (fun c_5 => ?_)
  · skip
    have c_5 := bz_ne.mp c_5
    obtain ⟨k0, hk0b, rfl⟩ := isI_nat (by omega) c_5
    have hJ := c_5
    have hk031 : k0 < 2 ^ 31 := by omega
    have hKq := hPR k0 hk0b
    have hpq : ∀ i, i < wn w → wp (Po k0) i < wn w := fun i hi => by have := hKq.1.2.1.2.1 i (by rw [hKq.2.1]; exact hi); rw [hKq.2.1] at this; exact this
    have hpq8 : ∀ i, i < wn w → wp (Po k0) i < 8 := fun i hi => by have := hpq i hi; omega
    have hpk2 := pk_24 hn8 hpq8
    have hv8 := hKq.1.1.2
    have hf2 := lt256 hKq.1.2.2.1 hv8
    have hh2 := lt256 hKq.1.2.2.2.1 hv8
    have ho2 := hKq.1.2.2.2.2.1
    refine lv_aload_n hx hb dX10_stand_10 rfl (lv_at hl 0 rfl) ?_
    refine lv_aload_n hx hb dX10_stand_11 rfl (lv_at hl 0 rfl) ?_
    refine mg S hK hP (by omega) hM fd_X10_66 rfl dX10_stand_12 ?_
    refine lv_iload_n hx hb dX10_stand_15 rfl (lv_at hl 1 rfl) ?_
    refine mial S hK hP (by omega) hq1 (vp_in_nI (by omega) (by omega)) dX10_stand_16 ?_
    refine tpi (congrArg ((fun x9 => nI (QP x9))) (nI_clamp (by omega))) ?_
    refine tpi (congrArg nI hKq.2.2.1) ?_
    refine kMv (As := [.int (nI (pk (wp (Po k0)) (wn w)))]) (rest := []) S hK hP hS (fun _ h => h) (c_X10_unpack l D cy ad N g hinj (by omega) (wn w) (wf w) (wh w) (wo w) un la bo tp ft wr0 wa at0 sp tk vl fi nm dp wy st aP aF aH aO ps mn go vi hM hn4 hn8 P hP9 (pk (wp (Po k0)) (wn w)) hpk2) cv_X10_180 (by omega) hM ⟨_, _, rfl⟩ ⟨rfl, rfl⟩ rfl hl.1 rfl (Nat.le_of_ble_eq_true rfl) ⟨Nat.zero_le _, Nat.zero_le _⟩ dX10_stand_17 (fun g_1 H locs q_1 hP hS => ?_)
    obtain ⟨h115_1, f_1⟩ := q_1
    have h114_1 : g_1 114 = mob ad (nI (wn w)) (nI (wf w)) (nI (wh w)) (lN (wo w)) (nI (un)) la bo (nI (tp)) ft (nI (wr0)) (nI (wa)) (nI (at0)) (nI (sp)) (nI (tk)) vl (nI (fi)) (nI (nm)) (nI (dp)) wy st (nI (aP)) (nI (aF)) (nI (aH)) (lN aO) (nI (ps)) (nI (mn)) go (nI (vi)) := (f_1 114 (by omega)).trans hM
    have h130_1 : g_1 130 = .inl (cy 1, 6, .inl (fun x9 => nI (QP x9))) := (f_1 130 (by omega)).trans hq1
    have h131_1 : g_1 131 = .inl (cy 1, 6, .inl (fun x9 => nI (QF x9))) := (f_1 131 (by omega)).trans hq2
    have h132_1 : g_1 132 = .inl (cy 1, 6, .inl (fun x9 => nI (QH x9))) := (f_1 132 (by omega)).trans hq3
    have h133_1 : g_1 133 = .inl (cy 2, 6, .inr (.inl QO)) := (f_1 133 (by omega)).trans hq4
    have hfr_1 : ∀ j : Nat, j ≠ 115 → g_1 j = g j := fun j n0 => (f_1 j n0).trans (hfr j )
    refine lv_aload_n hx hb dX10_stand_20 rfl (lv_at hl 0 rfl) ?_
    refine lv_aload_n hx hb dX10_stand_21 rfl (lv_at hl 0 rfl) ?_
    refine mg S hK hP (by omega) h114_1 fd_X10_69 rfl dX10_stand_22 ?_
    refine lv_iload_n hx hb dX10_stand_25 rfl (lv_at hl 1 rfl) ?_
    refine mial S hK hP (by omega) h131_1 (vp_in_nI (by omega) (by omega)) dX10_stand_26 ?_
    refine tpi (congrArg ((fun x9 => nI (QF x9))) (nI_clamp (by omega))) ?_
    refine tpi (congrArg nI hKq.2.2.2.1) ?_
    refine mp S hK hP hI hS (by omega) h114_1 fd_X10_17 rfl rfl (Nat.le_of_ble_eq_true rfl) dX10_stand_27 (fun g_2 H locs eg_2 hP hS => ?_)
    have h114_2 : g_2 114 = mob ad (nI (wn w)) (nI (wf (Po k0))) (nI (wh w)) (lN (wo w)) (nI (un)) la bo (nI (tp)) ft (nI (wr0)) (nI (wa)) (nI (at0)) (nI (sp)) (nI (tk)) vl (nI (fi)) (nI (nm)) (nI (dp)) wy st (nI (aP)) (nI (aF)) (nI (aH)) (lN aO) (nI (ps)) (nI (mn)) go (nI (vi)) := by rw [eg_2, va_up_self]; exact rfl
    have h115_2 : g_2 115 = .inl (cy 1, 8, .inl (fun x9 => nI ((upk (pk (wp (Po k0)) (wn w)) P (wn w)) x9))) := ((congrFun eg_2 _).trans (va_up_ne _ _ (by omega))).trans h115_1
    have h130_2 : g_2 130 = .inl (cy 1, 6, .inl (fun x9 => nI (QP x9))) := ((congrFun eg_2 _).trans (va_up_ne _ _ (by omega))).trans h130_1
    have h131_2 : g_2 131 = .inl (cy 1, 6, .inl (fun x9 => nI (QF x9))) := ((congrFun eg_2 _).trans (va_up_ne _ _ (by omega))).trans h131_1
    have h132_2 : g_2 132 = .inl (cy 1, 6, .inl (fun x9 => nI (QH x9))) := ((congrFun eg_2 _).trans (va_up_ne _ _ (by omega))).trans h132_1
    have h133_2 : g_2 133 = .inl (cy 2, 6, .inr (.inl QO)) := ((congrFun eg_2 _).trans (va_up_ne _ _ (by omega))).trans h133_1
    have hfr_2 : ∀ j : Nat, j ≠ 115 → j ≠ 114 → g_2 j = g j := fun j n0 n1 => ((congrFun eg_2 _).trans (va_up_ne _ _ n1)).trans (hfr_1 j n0)
    refine lv_aload_n hx hb dX10_stand_30 rfl (lv_at hl 0 rfl) ?_
    refine lv_aload_n hx hb dX10_stand_31 rfl (lv_at hl 0 rfl) ?_
    refine mg S hK hP (by omega) h114_2 fd_X10_72 rfl dX10_stand_32 ?_
    refine lv_iload_n hx hb dX10_stand_35 rfl (lv_at hl 1 rfl) ?_
    refine mial S hK hP (by omega) h132_2 (vp_in_nI (by omega) (by omega)) dX10_stand_36 ?_
    refine tpi (congrArg ((fun x9 => nI (QH x9))) (nI_clamp (by omega))) ?_
    refine tpi (congrArg nI hKq.2.2.2.2.1) ?_
    refine mp S hK hP hI hS (by omega) h114_2 fd_X10_20 rfl rfl (Nat.le_of_ble_eq_true rfl) dX10_stand_37 (fun g_3 H locs eg_3 hP hS => ?_)
    have h114_3 : g_3 114 = mob ad (nI (wn w)) (nI (wf (Po k0))) (nI (wh (Po k0))) (lN (wo w)) (nI (un)) la bo (nI (tp)) ft (nI (wr0)) (nI (wa)) (nI (at0)) (nI (sp)) (nI (tk)) vl (nI (fi)) (nI (nm)) (nI (dp)) wy st (nI (aP)) (nI (aF)) (nI (aH)) (lN aO) (nI (ps)) (nI (mn)) go (nI (vi)) := by rw [eg_3, va_up_self]; exact rfl
    have h115_3 : g_3 115 = .inl (cy 1, 8, .inl (fun x9 => nI ((upk (pk (wp (Po k0)) (wn w)) P (wn w)) x9))) := ((congrFun eg_3 _).trans (va_up_ne _ _ (by omega))).trans h115_2
    have h130_3 : g_3 130 = .inl (cy 1, 6, .inl (fun x9 => nI (QP x9))) := ((congrFun eg_3 _).trans (va_up_ne _ _ (by omega))).trans h130_2
    have h131_3 : g_3 131 = .inl (cy 1, 6, .inl (fun x9 => nI (QF x9))) := ((congrFun eg_3 _).trans (va_up_ne _ _ (by omega))).trans h131_2
    have h132_3 : g_3 132 = .inl (cy 1, 6, .inl (fun x9 => nI (QH x9))) := ((congrFun eg_3 _).trans (va_up_ne _ _ (by omega))).trans h132_2
    have h133_3 : g_3 133 = .inl (cy 2, 6, .inr (.inl QO)) := ((congrFun eg_3 _).trans (va_up_ne _ _ (by omega))).trans h133_2
    have hfr_3 : ∀ j : Nat, j ≠ 115 → j ≠ 114 → g_3 j = g j := fun j n0 n1 => ((congrFun eg_3 _).trans (va_up_ne _ _ n1)).trans (hfr_2 j n0 n1)
    refine lv_aload_n hx hb dX10_stand_40 rfl (lv_at hl 0 rfl) ?_
    refine lv_aload_n hx hb dX10_stand_41 rfl (lv_at hl 0 rfl) ?_
    refine mg S hK hP (by omega) h114_3 fd_X10_75 rfl dX10_stand_42 ?_
    refine lv_iload_n hx hb dX10_stand_45 rfl (lv_at hl 1 rfl) ?_
    refine mlal S hK hP (by omega) h133_3 (vp_in_nI (by omega) (by omega)) dX10_stand_46 ?_
    refine tpl (congrArg QO (nI_clamp (by omega))) ?_
    refine tpl (hKq.2.2.2.2.2) ?_
    refine mp S hK hP hI hS (by omega) h114_3 fd_X10_119 rfl rfl (Nat.le_of_ble_eq_true rfl) dX10_stand_47 (fun g_4 H locs eg_4 hP hS => ?_)
    have h114_4 : g_4 114 = mob ad (nI (wn w)) (nI (wf (Po k0))) (nI (wh (Po k0))) (lN (wo (Po k0))) (nI (un)) la bo (nI (tp)) ft (nI (wr0)) (nI (wa)) (nI (at0)) (nI (sp)) (nI (tk)) vl (nI (fi)) (nI (nm)) (nI (dp)) wy st (nI (aP)) (nI (aF)) (nI (aH)) (lN aO) (nI (ps)) (nI (mn)) go (nI (vi)) := by rw [eg_4, va_up_self]; exact rfl
    have h115_4 : g_4 115 = .inl (cy 1, 8, .inl (fun x9 => nI ((upk (pk (wp (Po k0)) (wn w)) P (wn w)) x9))) := ((congrFun eg_4 _).trans (va_up_ne _ _ (by omega))).trans h115_3
    have h130_4 : g_4 130 = .inl (cy 1, 6, .inl (fun x9 => nI (QP x9))) := ((congrFun eg_4 _).trans (va_up_ne _ _ (by omega))).trans h130_3
    have h131_4 : g_4 131 = .inl (cy 1, 6, .inl (fun x9 => nI (QF x9))) := ((congrFun eg_4 _).trans (va_up_ne _ _ (by omega))).trans h131_3
    have h132_4 : g_4 132 = .inl (cy 1, 6, .inl (fun x9 => nI (QH x9))) := ((congrFun eg_4 _).trans (va_up_ne _ _ (by omega))).trans h132_3
    have h133_4 : g_4 133 = .inl (cy 2, 6, .inr (.inl QO)) := ((congrFun eg_4 _).trans (va_up_ne _ _ (by omega))).trans h133_3
    have hfr_4 : ∀ j : Nat, j ≠ 115 → j ≠ 114 → g_4 j = g j := fun j n0 n1 => ((congrFun eg_4 _).trans (va_up_ne _ _ n1)).trans (hfr_3 j n0 n1)
    refine lv_aload_n hx hb dX10_stand_50 rfl (lv_at hl 0 rfl) ?_
    refine lv_iconst (v := nI (0)) hx hb dX10_stand_51 (by decide) ?_
    refine mp S hK hP hI hS (by omega) h114_4 fd_X10_123 rfl rfl (Nat.le_of_ble_eq_true rfl) dX10_stand_52 (fun g_5 H locs eg_5 hP hS => ?_)
    have h114_5 : g_5 114 = mob ad (nI (wn w)) (nI (wf (Po k0))) (nI (wh (Po k0))) (lN (wo (Po k0))) (nI (0)) la bo (nI (tp)) ft (nI (wr0)) (nI (wa)) (nI (at0)) (nI (sp)) (nI (tk)) vl (nI (fi)) (nI (nm)) (nI (dp)) wy st (nI (aP)) (nI (aF)) (nI (aH)) (lN aO) (nI (ps)) (nI (mn)) go (nI (vi)) := by rw [eg_5, va_up_self]; exact rfl
    have h115_5 : g_5 115 = .inl (cy 1, 8, .inl (fun x9 => nI ((upk (pk (wp (Po k0)) (wn w)) P (wn w)) x9))) := ((congrFun eg_5 _).trans (va_up_ne _ _ (by omega))).trans h115_4
    have h130_5 : g_5 130 = .inl (cy 1, 6, .inl (fun x9 => nI (QP x9))) := ((congrFun eg_5 _).trans (va_up_ne _ _ (by omega))).trans h130_4
    have h131_5 : g_5 131 = .inl (cy 1, 6, .inl (fun x9 => nI (QF x9))) := ((congrFun eg_5 _).trans (va_up_ne _ _ (by omega))).trans h131_4
    have h132_5 : g_5 132 = .inl (cy 1, 6, .inl (fun x9 => nI (QH x9))) := ((congrFun eg_5 _).trans (va_up_ne _ _ (by omega))).trans h132_4
    have h133_5 : g_5 133 = .inl (cy 2, 6, .inr (.inl QO)) := ((congrFun eg_5 _).trans (va_up_ne _ _ (by omega))).trans h133_4
    have hfr_5 : ∀ j : Nat, j ≠ 115 → j ≠ 114 → g_5 j = g j := fun j n0 n1 => ((congrFun eg_5 _).trans (va_up_ne _ _ n1)).trans (hfr_4 j n0 n1)
    refine lv_iconst (v := nI (1)) hx hb dX10_stand_55 (by decide) ?_
    exact rMi S hr hlk hP hS ⟨_, (if_pos hJ).symm, (by simp only [if_pos hJ, nI_clamp hk031]; intro i hi; rw [upk_pk hpq8 i hi]), (by simp only [if_pos hJ, nI_clamp hk031]; exact h114_5), h115_5, (fun j n0 n1 => hfr_5 j (by omega) (by omega))⟩ dX10_stand_56
  · skip
    have c_5 := bz_eq.mp c_5
    have hJ : ¬ isI x0 ps := c_5
    refine lv_iconst (v := (-1)) hx hb dX10_stand_8 (by decide) ?_
    exact rMi S hr hlk hP hS ⟨_, (if_neg hJ).symm, (by simp only [if_neg hJ]; exact hPw), (by simp only [if_neg hJ]; exact hM), hP9, (fun j n0 n1 => hfr j )⟩ dX10_stand_9
set_option maxHeartbeats 4000000 in
set_option maxRecDepth 100000 in
theorem c_X10_turned (l : Launch) (D : va_G) (cy : Nat → ClassId) (ad : Nat → Nat) (N : Nat) (g : Nat → va_E) (hN : 145 ≤ N) (n : Nat) (fa : Nat) (he : Nat) (ov : Nat) (un : Nat) (la : Int32) (bo : Int32) (tp : Nat) (ft : Int32) (wr0 : Nat) (wa : Nat) (at0 : Nat) (sp : Nat) (tk : Nat) (vl : Int32) (fi : Nat) (nm : Nat) (dp : Nat) (wy : Int32) (st : Int32) (aP : Nat) (aF : Nat) (aH : Nat) (aO : Nat) (ps : Nat) (mn : Nat) (go : Int32) (vi : Nat) (hM : g 114 = mob ad (nI (n)) (nI (fa)) (nI (he)) (lN ov) (nI (un)) la bo (nI (tp)) ft (nI (wr0)) (nI (wa)) (nI (at0)) (nI (sp)) (nI (tk)) vl (nI (fi)) (nI (nm)) (nI (dp)) wy st (nI (aP)) (nI (aF)) (nI (aH)) (lN aO) (nI (ps)) (nI (mn)) go (nI (vi))) (hn4 : 4 ≤ n) (hn8 : n ≤ 8) (v0 : Nat) (hv0 : v0 < 2 ^ 24) (Q : Nat → Nat) (hQ : ∀ i, i < n → v0 / 2 ^ (3 * i) &&& 7 = Q i) (hQn : ∀ i, i < n → Q i < n) : Met l yX10_turned (WS yX10_turned cX10_turned 4 (some .int)) (rmF 0 0) (PP [.ref (ad 114), .int (nI (v0))] D cy ad N g) (vp_Si (fun r => r = nI (pk (trn n Q) n))) 0 0 (fun _ => False) := by
  refine mentry (by decide) (Nat.le_of_ble_eq_true rfl) (fun p e s m below meth c ls S hr hlk hnm hP hK hl => ?_)
  have S : CallFix p m c cX10_turned 4 s _ wsL_law RX10 := S
  have hx := S.1
  have hb := S.2.1
  have hl : lv_has ls 4 [(0, .ref (ad 114)), (1, .int (nI (v0)))] := hl
  have hQ0 := hQn 0 (by omega)
  refine lv_iconst (v := nI (0)) hx hb dX10_turned_0 (by decide) ?_
  refine lv_istore_n (lv' := [(2, .int (nI (0))), (0, .ref (ad 114)), (1, .int (nI (v0)))]) hx hb dX10_turned_1 rfl hl (by decide) rfl (fun ls hl => ?_)
  refine lv_iconst (v := nI (0)) hx hb dX10_turned_2 (by decide) ?_
  refine lv_istore_n (lv' := [(3, .int (nI (0))), (2, .int (nI (0))), (0, .ref (ad 114)), (1, .int (nI (v0)))]) hx hb dX10_turned_3 rfl hl (by decide) rfl (fun ls hl => ?_)
  have L4 : ∀ (fu : Nat) (i v : Nat), (i ≤ n) → (v = pk (trn n Q) i) → (n - i) < fu → ∀ (ls : Array Slot), lv_has ls 4 [(3, .int (nI (i))), (2, .int (nI (v))), (0, .ref (ad 114)), (1, .int (nI (v0)))] → W p l e (rmF 0 0) s m [.ref (ad 114), .int (nI (v0))].toArray below meth c s.heap [] 0 0 (MQ below (vp_Si (fun r => r = nI (pk (trn n Q) n))) [.ref (ad 114), .int (nI (v0))].toArray s 0 0 (fun _ => False)) (F0 m 4 ls []) := by
    intro fu
    induction fu with
    | zero => intro i v hi hv hms ls hl; exact absurd hms (Nat.not_lt_zero _)
    | succ fu ih4 =>
      intro i v hi hv hms ls hl
      refine lv_iload_n hx hb dX10_turned_4 rfl (lv_at hl 0 rfl) ?_
      refine lv_aload_n hx hb dX10_turned_5 rfl (lv_at hl 2 rfl) ?_
      refine mg S hK hP (by omega) hM fd_X10_7 rfl dX10_turned_6 ?_
      refine lv_icmp_ge (tgt := 48) hx hb dX10_turned_9 (by decide) (fun c_9 => ?_) (fun c_9 => ?_)
      · skip
        have c_9 := (nI_leI (by omega) (by omega)).mp c_9
        refine lv_iload_n hx hb dX10_turned_48 rfl (lv_at hl 1 rfl) ?_
        exact rSi S hr hlk (by have e : i = n := (by omega); rw [hv, e]) dX10_turned_49
      · skip
        have c_9 := (not_congr (nI_leI (by omega) (by omega))).mp c_9
        refine lv_iload_n hx hb dX10_turned_12 rfl (lv_at hl 1 rfl) ?_
        refine lv_iload_n hx hb dX10_turned_13 rfl (lv_at hl 3 rfl) ?_
        refine lv_iconst (v := nI (3)) hx hb dX10_turned_14 (by decide) ?_
        refine lv_iload_n hx hb dX10_turned_15 rfl (lv_at hl 0 rfl) ?_
        refine lv_imul hx hb dX10_turned_16 ?_
        refine tpi (pk_mul 3 i) ?_
        refine lv_ishr hx hb dX10_turned_17 ?_
        refine tpi (shrN (by omega) (by omega)) ?_
        refine lv_bipush (v := nI (7)) hx hb dX10_turned_18 (by decide) ?_
        refine lv_iand hx hb dX10_turned_20 ?_
        refine tpi (nx_and (v0 / 2 ^ (3 * i)) 7) ?_
        refine tpi (congrArg nI (hQ i (by omega))) ?_
        have hQi := hQn i (by omega)
        refine lv_iload_n hx hb dX10_turned_21 rfl (lv_at hl 3 rfl) ?_
        refine lv_bipush (v := nI (7)) hx hb dX10_turned_22 (by decide) ?_
        refine lv_iand hx hb dX10_turned_24 ?_
        refine tpi (nx_and v0 7) ?_
        refine tpi (congrArg nI (v7_0 (hQ 0 (by omega)))) ?_
        refine lv_isub hx hb dX10_turned_25 ?_
        refine lv_aload_n hx hb dX10_turned_26 rfl (lv_at hl 2 rfl) ?_
        refine mg S hK hP (by omega) hM fd_X10_7 rfl dX10_turned_27 ?_
        refine lv_iadd hx hb dX10_turned_30 ?_
        refine tpi (sbn (by omega)) ?_
        refine lv_aload_n hx hb dX10_turned_31 rfl (lv_at hl 2 rfl) ?_
        refine mg S hK hP (by omega) hM fd_X10_7 rfl dX10_turned_32 ?_
        refine lv_irem hx hb dX10_turned_35 (fun h => by have h := (z_eq (by omega)).mp h; omega) ?_
        refine tpi (pk_rem (a := Q i + n - Q 0) (by omega) (by omega) (by omega)) ?_
        refine tpi (rfl) ?_
        refine lv_iconst (v := nI (3)) hx hb dX10_turned_36 (by decide) ?_
        refine lv_iload_n hx hb dX10_turned_37 rfl (lv_at hl 0 rfl) ?_
        refine lv_imul hx hb dX10_turned_38 ?_
        refine tpi (pk_mul 3 i) ?_
        refine lv_ishl hx hb dX10_turned_39 ?_
        refine tpi (shlN (trn n Q i) (by omega)) ?_
        refine lv_ior hx hb dX10_turned_40 ?_
        refine tpi (nI_or v ((trn n Q i) * 2 ^ (3 * i))) ?_
        refine lv_istore_n (lv' := [(2, .int (nI (v ||| ((trn n Q i) * 2 ^ (3 * i))))), (3, .int (nI (i))), (0, .ref (ad 114)), (1, .int (nI (v0)))]) hx hb dX10_turned_41 rfl hl (by decide) rfl (fun ls hl => ?_)
        refine lv_iinc (v := nI (i + 1)) (lv' := [(3, .int (nI (i + 1))), (2, .int (nI (v ||| ((trn n Q i) * 2 ^ (3 * i))))), (0, .ref (ad 114)), (1, .int (nI (v0)))]) hx hb dX10_turned_42 hl (k := 1) rfl (by exact nI_add i 1) (by decide) rfl (fun ls hl => ?_)
        refine lv_goto (tgt := 4) hx hb dX10_turned_45 (by decide) ?_
        exact ih4 (i + 1) (v ||| ((trn n Q i) * 2 ^ (3 * i))) (by omega) (by rw [hv]; rfl) (by omega) _ (lv_sub hl [0, 1, 2, 3] rfl)
  exact L4 ((n - 0) + 1) 0 0 (by omega) rfl (Nat.lt_succ_self _) _ (lv_sub hl [0, 1, 2, 3] rfl)
set_option maxHeartbeats 4000000 in
set_option maxRecDepth 100000 in
theorem c_X10_isAlike (l : Launch) (D : va_G) (cy : Nat → ClassId) (ad : Nat → Nat) (N : Nat) (g : Nat → va_E) (hN : 145 ≤ N) (w : WT) (un : Nat) (la : Int32) (bo : Int32) (tp : Nat) (ft : Int32) (wr0 : Nat) (wa : Nat) (at0 : Nat) (sp : Nat) (tk : Nat) (vl : Int32) (fi : Nat) (nm : Nat) (dp : Nat) (wy : Int32) (st : Int32) (aP : Nat) (aF : Nat) (aH : Nat) (aO : Nat) (ps : Nat) (mn : Nat) (go : Int32) (vi : Nat) (hM : g 114 = mob ad (nI (wn w)) (nI (wf w)) (nI (wh w)) (lN (wo w)) (nI (un)) la bo (nI (tp)) ft (nI (wr0)) (nI (wa)) (nI (at0)) (nI (sp)) (nI (tk)) vl (nI (fi)) (nI (nm)) (nI (dp)) wy st (nI (aP)) (nI (aF)) (nI (aH)) (lN aO) (nI (ps)) (nI (mn)) go (nI (vi))) (P : Nat → Nat) (hP9 : g 115 = .inl (cy 1, 8, .inl (fun x9 => nI (P x9)))) (hw : WOK w) (hPw : ∀ i, i < wn w → P i = wp w i) (QP : Nat → Nat) (hq1 : g 130 = .inl (cy 1, 6, .inl (fun x9 => nI (QP x9)))) (QF : Nat → Nat) (hq2 : g 131 = .inl (cy 1, 6, .inl (fun x9 => nI (QF x9)))) (QH : Nat → Nat) (hq3 : g 132 = .inl (cy 1, 6, .inl (fun x9 => nI (QH x9)))) (QO : Nat → Int64) (hq4 : g 133 = .inl (cy 2, 6, .inr (.inl QO))) (Po : Nat → WT) (hps : ps ≤ 6) (hPR : PR ps (wn w) QP QF QH QO Po) (k0 : Nat) (hk0b : k0 < ps) : Met l yX10_isAlike (WS yX10_isAlike cX10_isAlike 2 (some .boolean)) (rmF 1 23) (PP [.ref (ad 114), .int (nI (k0))] D cy ad N g) (vp_Si (fun r => r = if ((∀ i, i < wn w → trn (wn w) (wp w) i = trn (wn w) (wp (Po k0)) i) ∧ wh w = wh (Po k0) ∧ wo w = wo (Po k0)) then 1 else 0)) 0 0 (fun _ => False) := by
  refine mentry (by decide) (Nat.le_of_ble_eq_true rfl) (fun p e s m below meth c ls S hr hlk hnm hP hK hl => ?_)
  have S : CallFix p m c cX10_isAlike 2 s _ wsL_law RX10 := S
  have hx := S.1
  have hb := S.2.1
  have hl : lv_has ls 2 [(0, .ref (ad 114)), (1, .int (nI (k0)))] := hl
  have hn4 := hw.1.1
  have hn8 := hw.1.2
  have hpm := perm_P hw hPw
  have hf := lt256 hw.2.2.1 hn8
  have hh := lt256 hw.2.2.2.1 hn8
  have ho := hw.2.2.2.2.1
  have hKq := hPR k0 hk0b
  have hpq : ∀ i, i < wn w → wp (Po k0) i < wn w := fun i hi => by have := hKq.1.2.1.2.1 i (by rw [hKq.2.1]; exact hi); rw [hKq.2.1] at this; exact this
  have hpq8 : ∀ i, i < wn w → wp (Po k0) i < 8 := fun i hi => by have := hpq i hi; omega
  have hpk2 := pk_24 hn8 hpq8
  have hv8 := hKq.1.1.2
  have hf2 := lt256 hKq.1.2.2.1 hv8
  have hh2 := lt256 hKq.1.2.2.2.1 hv8
  have ho2 := hKq.1.2.2.2.2.1
  have hP8 := P8 hw hPw
  have hpk := pk_24 hn8 hP8
  have ht1 := pk_24 (P := trn (wn w) P) hn8 (fun i _ => by have := trn_lt (P := P) (n := wn w) (by omega) i; omega)
  have ht2 := pk_24 (P := trn (wn w) (wp (Po k0))) hn8 (fun i _ => by have := trn_lt (P := wp (Po k0)) (n := wn w) (by omega) i; omega)
  refine lv_aload_n hx hb dX10_isAlike_0 rfl (lv_at hl 0 rfl) ?_
  refine lv_aload_n hx hb dX10_isAlike_1 rfl (lv_at hl 0 rfl) ?_
  refine kVi (As := []) (rest := [.ref (ad 114)]) S hK hP (c_X10_packed l D cy ad N g (by omega) (wn w) (wf w) (wh w) (wo w) un la bo tp ft wr0 wa at0 sp tk vl fi nm dp wy st aP aF aH aO ps mn go vi hM hn4 hn8 P hP9) cv_X10_153 (by omega) hM ⟨_, _, rfl⟩ ⟨rfl, rfl⟩ rfl hl.1 rfl (Nat.le_of_ble_eq_true rfl) ⟨Nat.zero_le _, Nat.zero_le _⟩ dX10_isAlike_2 (fun r_2 q_2 => ?_)
  subst q_2
  refine kVi (As := [.int (nI (pk P (wn w)))]) (rest := []) S hK hP (c_X10_turned l D cy ad N g (by omega) (wn w) (wf w) (wh w) (wo w) un la bo tp ft wr0 wa at0 sp tk vl fi nm dp wy st aP aF aH aO ps mn go vi hM hn4 hn8 (pk P (wn w)) hpk P (fun i hi => pk_nib hP8 hi) hpm.2.1) cv_X10_330 (by omega) hM ⟨_, _, rfl⟩ ⟨rfl, rfl⟩ rfl hl.1 rfl (Nat.le_of_ble_eq_true rfl) ⟨Nat.zero_le _, Nat.zero_le _⟩ dX10_isAlike_5 (fun r_5 q_5 => ?_)
  subst q_5
  refine lv_aload_n hx hb dX10_isAlike_8 rfl (lv_at hl 0 rfl) ?_
  refine lv_aload_n hx hb dX10_isAlike_9 rfl (lv_at hl 0 rfl) ?_
  refine mg S hK hP (by omega) hM fd_X10_66 rfl dX10_isAlike_10 ?_
  refine lv_iload_n hx hb dX10_isAlike_13 rfl (lv_at hl 1 rfl) ?_
  refine mial S hK hP (by omega) hq1 (vp_in_nI (by omega) (by omega)) dX10_isAlike_14 ?_
  refine tpi (congrArg ((fun x9 => nI (QP x9))) (nI_clamp (by omega))) ?_
  refine tpi (congrArg nI hKq.2.2.1) ?_
  refine kVi (As := [.int (nI (pk (wp (Po k0)) (wn w)))]) (rest := [.int (nI (pk (trn (wn w) P) (wn w)))]) S hK hP (c_X10_turned l D cy ad N g (by omega) (wn w) (wf w) (wh w) (wo w) un la bo tp ft wr0 wa at0 sp tk vl fi nm dp wy st aP aF aH aO ps mn go vi hM hn4 hn8 (pk (wp (Po k0)) (wn w)) hpk2 (wp (Po k0)) (fun i hi => pk_nib hpq8 hi) hpq) cv_X10_330 (by omega) hM ⟨_, _, rfl⟩ ⟨rfl, rfl⟩ rfl hl.1 rfl (Nat.le_of_ble_eq_true rfl) ⟨Nat.zero_le _, Nat.zero_le _⟩ dX10_isAlike_15 (fun r_15 q_15 => ?_)
  subst q_15
  refine lv_icmp_ne (tgt := 52) hx hb dX10_isAlike_18 (by decide) (fun c_18 => ?_) (fun c_18 => ?_)
  · skip
    have c_18 := (not_congr (nI_eq (by omega) (by omega))).mp c_18
    refine lv_iconst (v := nI (0)) hx hb dX10_isAlike_52 (by decide) ?_
    exact rSz S hr hlk (by first | exact Or.inl rfl | exact Or.inr rfl) (ifF (fun q => by first | exact c_18 ((trn_pk (by omega) hn8).mpr (fun i hi => by rw [trn_c (by omega) hPw i hi]; exact q.1 i hi)) | exact c_31 q.2.1 | exact c_45 q.2.2)) dX10_isAlike_53
  · skip
    have c_18 := (nI_eq (by omega) (by omega)).mp c_18
    refine lv_aload_n hx hb dX10_isAlike_21 rfl (lv_at hl 0 rfl) ?_
    refine mg S hK hP (by omega) hM fd_X10_20 rfl dX10_isAlike_22 ?_
    refine lv_aload_n hx hb dX10_isAlike_25 rfl (lv_at hl 0 rfl) ?_
    refine mg S hK hP (by omega) hM fd_X10_72 rfl dX10_isAlike_26 ?_
    refine lv_iload_n hx hb dX10_isAlike_29 rfl (lv_at hl 1 rfl) ?_
    refine mial S hK hP (by omega) hq3 (vp_in_nI (by omega) (by omega)) dX10_isAlike_30 ?_
    refine tpi (congrArg ((fun x9 => nI (QH x9))) (nI_clamp (by omega))) ?_
    refine tpi (congrArg nI hKq.2.2.2.2.1) ?_
    refine lv_icmp_ne (tgt := 52) hx hb dX10_isAlike_31 (by decide) (fun c_31 => ?_) (fun c_31 => ?_)
    · skip
      have c_31 := (not_congr (nI_eq (by omega) (by omega))).mp c_31
      refine lv_iconst (v := nI (0)) hx hb dX10_isAlike_52 (by decide) ?_
      exact rSz S hr hlk (by first | exact Or.inl rfl | exact Or.inr rfl) (ifF (fun q => by first | exact c_18 ((trn_pk (by omega) hn8).mpr (fun i hi => by rw [trn_c (by omega) hPw i hi]; exact q.1 i hi)) | exact c_31 q.2.1 | exact c_45 q.2.2)) dX10_isAlike_53
    · skip
      have c_31 := (nI_eq (by omega) (by omega)).mp c_31
      refine lv_aload_n hx hb dX10_isAlike_34 rfl (lv_at hl 0 rfl) ?_
      refine mg S hK hP (by omega) hM fd_X10_119 rfl dX10_isAlike_35 ?_
      refine lv_aload_n hx hb dX10_isAlike_38 rfl (lv_at hl 0 rfl) ?_
      refine mg S hK hP (by omega) hM fd_X10_75 rfl dX10_isAlike_39 ?_
      refine lv_iload_n hx hb dX10_isAlike_42 rfl (lv_at hl 1 rfl) ?_
      refine mlal S hK hP (by omega) hq4 (vp_in_nI (by omega) (by omega)) dX10_isAlike_43 ?_
      refine tpl (congrArg QO (nI_clamp (by omega))) ?_
      refine tpl (hKq.2.2.2.2.2) ?_
      refine W.lcmp hx hb dX10_isAlike_44 ?_
      refine lv_if_ne (tgt := 52) hx hb dX10_isAlike_45 (by decide) (fun c_45 => ?_) (fun c_45 => ?_)
      · skip
        have c_45 := (not_congr (lgN_eq ho ho2)).mp c_45
        refine lv_iconst (v := nI (0)) hx hb dX10_isAlike_52 (by decide) ?_
        exact rSz S hr hlk (by first | exact Or.inl rfl | exact Or.inr rfl) (ifF (fun q => by first | exact c_18 ((trn_pk (by omega) hn8).mpr (fun i hi => by rw [trn_c (by omega) hPw i hi]; exact q.1 i hi)) | exact c_31 q.2.1 | exact c_45 q.2.2)) dX10_isAlike_53
      · skip
        have c_45 := (lgN_eq ho ho2).mp c_45
        refine lv_iconst (v := nI (1)) hx hb dX10_isAlike_48 (by decide) ?_
        refine lv_goto (tgt := 53) hx hb dX10_isAlike_49 (by decide) ?_
        exact rSz S hr hlk (by first | exact Or.inl rfl | exact Or.inr rfl) (ifT ⟨fun i hi => by rw [← trn_c (by omega) hPw i hi]; exact (trn_pk (by omega) hn8).mp c_18 i hi, c_31, c_45⟩) dX10_isAlike_53
set_option maxHeartbeats 4000000 in
set_option maxRecDepth 100000 in
theorem c_X10_alike (l : Launch) (D : va_G) (cy : Nat → ClassId) (ad : Nat → Nat) (N : Nat) (g : Nat → va_E) (hN : 145 ≤ N) (w : WT) (un : Nat) (la : Int32) (bo : Int32) (tp : Nat) (ft : Int32) (wr0 : Nat) (wa : Nat) (at0 : Nat) (sp : Nat) (tk : Nat) (vl : Int32) (fi : Nat) (nm : Nat) (dp : Nat) (wy : Int32) (st : Int32) (aP : Nat) (aF : Nat) (aH : Nat) (aO : Nat) (ps : Nat) (mn : Nat) (go : Int32) (vi : Nat) (hM : g 114 = mob ad (nI (wn w)) (nI (wf w)) (nI (wh w)) (lN (wo w)) (nI (un)) la bo (nI (tp)) ft (nI (wr0)) (nI (wa)) (nI (at0)) (nI (sp)) (nI (tk)) vl (nI (fi)) (nI (nm)) (nI (dp)) wy st (nI (aP)) (nI (aF)) (nI (aH)) (lN aO) (nI (ps)) (nI (mn)) go (nI (vi))) (P : Nat → Nat) (hP9 : g 115 = .inl (cy 1, 8, .inl (fun x9 => nI (P x9)))) (hw : WOK w) (hPw : ∀ i, i < wn w → P i = wp w i) (QP : Nat → Nat) (hq1 : g 130 = .inl (cy 1, 6, .inl (fun x9 => nI (QP x9)))) (QF : Nat → Nat) (hq2 : g 131 = .inl (cy 1, 6, .inl (fun x9 => nI (QF x9)))) (QH : Nat → Nat) (hq3 : g 132 = .inl (cy 1, 6, .inl (fun x9 => nI (QH x9)))) (QO : Nat → Int64) (hq4 : g 133 = .inl (cy 2, 6, .inr (.inl QO))) (Po : Nat → WT) (hps : ps ≤ 6) (hPR : PR ps (wn w) QP QF QH QO Po) (x0 : Int32) : Met l yX10_alike (WS yX10_alike cX10_alike 3 (some .int)) (rmF 2 46) (PP [.ref (ad 114), .int x0] D cy ad N g) (vp_Si (fun r => r = if isI x0 ps then alA w (Po x0.toNatClampNeg) else -1)) 0 0 (fun _ => False) := by
  refine mentry (by decide) (Nat.le_of_ble_eq_true rfl) (fun p e s m below meth c ls S hr hlk hnm hP hK hl => ?_)
  have S : CallFix p m c cX10_alike 3 s _ wsL_law RX10 := S
  have hx := S.1
  have hb := S.2.1
  have hl : lv_has ls 3 [(0, .ref (ad 114)), (1, .int x0)] := hl
  have hn4 := hw.1.1
  have hn8 := hw.1.2
  have hpm := perm_P hw hPw
  have hf := lt256 hw.2.2.1 hn8
  have hh := lt256 hw.2.2.2.1 hn8
  have ho := hw.2.2.2.2.1
  have hP8 := P8 hw hPw
  have hpk := pk_24 hn8 hP8
  refine lv_aload_n hx hb dX10_alike_0 rfl (lv_at hl 0 rfl) ?_
  refine lv_iload_n hx hb dX10_alike_1 rfl (lv_at hl 1 rfl) ?_
  refine kVi (As := [.int x0]) (rest := []) S hK hP (c_X10_isPose l D cy ad N g (by omega) (wn w) (wf w) (wh w) (wo w) un la bo tp ft wr0 wa at0 sp tk vl fi nm dp wy st aP aF aH aO ps mn go vi hM hps x0) cv_X10_327 (by omega) hM ⟨_, _, rfl⟩ ⟨rfl, rfl⟩ rfl hl.1 rfl (Nat.le_of_ble_eq_true rfl) ⟨Nat.zero_le _, Nat.zero_le _⟩ dX10_alike_2 (fun r_2 q_2 => ?_)
  subst q_2
  refine lv_if_ne (tgt := 10) hx hb dX10_alike_5 (by decide) (fun c_5 => ?_) (fun c_5 => ?_)
  · skip
    have c_5 := bz_ne.mp c_5
    obtain ⟨k0, hk0b, rfl⟩ := isI_nat (by omega) c_5
    have hJ := c_5
    have hk031 : k0 < 2 ^ 31 := by omega
    have hKq := hPR k0 hk0b
    have hpq : ∀ i, i < wn w → wp (Po k0) i < wn w := fun i hi => by have := hKq.1.2.1.2.1 i (by rw [hKq.2.1]; exact hi); rw [hKq.2.1] at this; exact this
    have hpq8 : ∀ i, i < wn w → wp (Po k0) i < 8 := fun i hi => by have := hpq i hi; omega
    have hpk2 := pk_24 hn8 hpq8
    have hv8 := hKq.1.1.2
    have hf2 := lt256 hKq.1.2.2.1 hv8
    have hh2 := lt256 hKq.1.2.2.2.1 hv8
    have ho2 := hKq.1.2.2.2.2.1
    refine lv_aload_n hx hb dX10_alike_10 rfl (lv_at hl 0 rfl) ?_
    refine kVi (As := []) (rest := []) S hK hP (c_X10_packed l D cy ad N g (by omega) (wn w) (wf w) (wh w) (wo w) un la bo tp ft wr0 wa at0 sp tk vl fi nm dp wy st aP aF aH aO ps mn go vi hM hn4 hn8 P hP9) cv_X10_153 (by omega) hM ⟨_, _, rfl⟩ ⟨rfl, rfl⟩ rfl hl.1 rfl (Nat.le_of_ble_eq_true rfl) ⟨Nat.zero_le _, Nat.zero_le _⟩ dX10_alike_11 (fun r_11 q_11 => ?_)
    subst q_11
    refine lv_aload_n hx hb dX10_alike_14 rfl (lv_at hl 0 rfl) ?_
    refine mg S hK hP (by omega) hM fd_X10_66 rfl dX10_alike_15 ?_
    refine lv_iload_n hx hb dX10_alike_18 rfl (lv_at hl 1 rfl) ?_
    refine mial S hK hP (by omega) hq1 (vp_in_nI (by omega) (by omega)) dX10_alike_19 ?_
    refine tpi (congrArg ((fun x9 => nI (QP x9))) (nI_clamp (by omega))) ?_
    refine tpi (congrArg nI hKq.2.2.1) ?_
    have J68 : ∀ (z9 : Nat), ((z9 = 1 ∧ (wn w = wn (Po k0) ∧ (∀ p, p < wn w → wd w p = wd (Po k0) p) ∧ wf w = wf (Po k0) ∧ wh w = wh (Po k0) ∧ wo w = wo (Po k0))) ∨ (z9 = 0 ∧ ¬ (wn w = wn (Po k0) ∧ (∀ p, p < wn w → wd w p = wd (Po k0) p) ∧ wf w = wf (Po k0) ∧ wh w = wh (Po k0) ∧ wo w = wo (Po k0)))) → ∀ (ls : Array Slot), lv_has ls 3 [(0, .ref (ad 114)), (1, .int (nI (k0)))] → W p l e (rmF 2 46) s m [.ref (ad 114), .int (nI k0)].toArray below meth c s.heap [] 0 0 (MQ below (vp_Si (fun r => r = if isI (nI k0) ps then alA w (Po (nI k0).toNatClampNeg) else -1)) [.ref (ad 114), .int (nI k0)].toArray s 0 0 (fun _ => False)) (F0 m 68 ls [.int (nI (z9))]) := by
      intro z9 hz9 ls hl
      refine lv_istore_n (lv' := [(2, .int (nI (z9))), (0, .ref (ad 114)), (1, .int (nI (k0)))]) hx hb dX10_alike_68 rfl hl (by decide) rfl (fun ls hl => ?_)
      have hz1 : z9 ≤ 1 := by rcases hz9 with q | q <;> omega
      refine lv_iload_n hx hb dX10_alike_69 rfl (lv_at hl 0 rfl) ?_
      refine lv_if_eq (tgt := 77) hx hb dX10_alike_70 (by decide) (fun c_70 => ?_) (fun c_70 => ?_)
      · skip
        have c_70 := (z_eq (by omega)).mp c_70
        refine lv_aload_n hx hb dX10_alike_77 rfl (lv_at hl 1 rfl) ?_
        refine lv_iload_n hx hb dX10_alike_78 rfl (lv_at hl 2 rfl) ?_
        refine kVi (As := [.int (nI (k0))]) (rest := []) S hK hP (c_X10_isAlike l D cy ad N g (by omega) w un la bo tp ft wr0 wa at0 sp tk vl fi nm dp wy st aP aF aH aO ps mn go vi hM P hP9 hw hPw QP hq1 QF hq2 QH hq3 QO hq4 Po hps hPR k0 hk0b) cv_X10_333 (by omega) hM ⟨_, _, rfl⟩ ⟨rfl, rfl⟩ rfl hl.1 rfl (Nat.le_of_ble_eq_true rfl) ⟨Nat.zero_le _, Nat.zero_le _⟩ dX10_alike_79 (fun r_79 q_79 => ?_)
        subst q_79
        refine lv_if_eq (tgt := 89) hx hb dX10_alike_82 (by decide) (fun c_82 => ?_) (fun c_82 => ?_)
        · skip
          have c_82 := bz_eq.mp c_82
          refine lv_iconst (v := nI (0)) hx hb dX10_alike_89 (by decide) ?_
          exact rSi S hr hlk (by rw [if_pos hJ, nI_clamp hk031]; rcases hz9 with q | q; (first | exact (alA_2 q.2).symm | exact absurd q.1 (by omega)); (first | exact absurd q.1 (by omega) | exact (alA_1 q.2 hw hKq.1 hKq.2.1 c_82).symm | exact (alA_0 q.2 hw hKq.1 hKq.2.1 c_82).symm)) dX10_alike_90
        · skip
          have c_82 := bz_ne.mp c_82
          refine lv_iconst (v := nI (1)) hx hb dX10_alike_85 (by decide) ?_
          refine lv_goto (tgt := 90) hx hb dX10_alike_86 (by decide) ?_
          exact rSi S hr hlk (by rw [if_pos hJ, nI_clamp hk031]; rcases hz9 with q | q; (first | exact (alA_2 q.2).symm | exact absurd q.1 (by omega)); (first | exact absurd q.1 (by omega) | exact (alA_1 q.2 hw hKq.1 hKq.2.1 c_82).symm | exact (alA_0 q.2 hw hKq.1 hKq.2.1 c_82).symm)) dX10_alike_90
      · skip
        have c_70 := (not_congr (z_eq (by omega))).mp c_70
        refine lv_iconst (v := nI (2)) hx hb dX10_alike_73 (by decide) ?_
        refine lv_goto (tgt := 90) hx hb dX10_alike_74 (by decide) ?_
        exact rSi S hr hlk (by rw [if_pos hJ, nI_clamp hk031]; rcases hz9 with q | q; (first | exact (alA_2 q.2).symm | exact absurd q.1 (by omega)); (first | exact absurd q.1 (by omega) | exact (alA_1 q.2 hw hKq.1 hKq.2.1 c_82).symm | exact (alA_0 q.2 hw hKq.1 hKq.2.1 c_82).symm)) dX10_alike_90
    refine lv_icmp_ne (tgt := 67) hx hb dX10_alike_20 (by decide) (fun c_20 => ?_) (fun c_20 => ?_)
    · skip
      have c_20 := (not_congr (nI_eq (by omega) (by omega))).mp c_20
      refine lv_iconst (v := nI (0)) hx hb dX10_alike_67 (by decide) ?_
      exact J68 0 (Or.inr ⟨rfl, fun q => by first | exact c_20 ((asW_pk hw hKq.1 hKq.2.1 hPw).mpr q.2.1) | exact c_33 q.2.2.1 | exact c_46 q.2.2.2.1 | exact c_60 q.2.2.2.2⟩) _ (lv_sub hl [0, 1] rfl)
    · skip
      have c_20 := (nI_eq (by omega) (by omega)).mp c_20
      refine lv_aload_n hx hb dX10_alike_23 rfl (lv_at hl 0 rfl) ?_
      refine mg S hK hP (by omega) hM fd_X10_17 rfl dX10_alike_24 ?_
      refine lv_aload_n hx hb dX10_alike_27 rfl (lv_at hl 0 rfl) ?_
      refine mg S hK hP (by omega) hM fd_X10_69 rfl dX10_alike_28 ?_
      refine lv_iload_n hx hb dX10_alike_31 rfl (lv_at hl 1 rfl) ?_
      refine mial S hK hP (by omega) hq2 (vp_in_nI (by omega) (by omega)) dX10_alike_32 ?_
      refine tpi (congrArg ((fun x9 => nI (QF x9))) (nI_clamp (by omega))) ?_
      refine tpi (congrArg nI hKq.2.2.2.1) ?_
      refine lv_icmp_ne (tgt := 67) hx hb dX10_alike_33 (by decide) (fun c_33 => ?_) (fun c_33 => ?_)
      · skip
        have c_33 := (not_congr (nI_eq (by omega) (by omega))).mp c_33
        refine lv_iconst (v := nI (0)) hx hb dX10_alike_67 (by decide) ?_
        exact J68 0 (Or.inr ⟨rfl, fun q => by first | exact c_20 ((asW_pk hw hKq.1 hKq.2.1 hPw).mpr q.2.1) | exact c_33 q.2.2.1 | exact c_46 q.2.2.2.1 | exact c_60 q.2.2.2.2⟩) _ (lv_sub hl [0, 1] rfl)
      · skip
        have c_33 := (nI_eq (by omega) (by omega)).mp c_33
        refine lv_aload_n hx hb dX10_alike_36 rfl (lv_at hl 0 rfl) ?_
        refine mg S hK hP (by omega) hM fd_X10_20 rfl dX10_alike_37 ?_
        refine lv_aload_n hx hb dX10_alike_40 rfl (lv_at hl 0 rfl) ?_
        refine mg S hK hP (by omega) hM fd_X10_72 rfl dX10_alike_41 ?_
        refine lv_iload_n hx hb dX10_alike_44 rfl (lv_at hl 1 rfl) ?_
        refine mial S hK hP (by omega) hq3 (vp_in_nI (by omega) (by omega)) dX10_alike_45 ?_
        refine tpi (congrArg ((fun x9 => nI (QH x9))) (nI_clamp (by omega))) ?_
        refine tpi (congrArg nI hKq.2.2.2.2.1) ?_
        refine lv_icmp_ne (tgt := 67) hx hb dX10_alike_46 (by decide) (fun c_46 => ?_) (fun c_46 => ?_)
        · skip
          have c_46 := (not_congr (nI_eq (by omega) (by omega))).mp c_46
          refine lv_iconst (v := nI (0)) hx hb dX10_alike_67 (by decide) ?_
          exact J68 0 (Or.inr ⟨rfl, fun q => by first | exact c_20 ((asW_pk hw hKq.1 hKq.2.1 hPw).mpr q.2.1) | exact c_33 q.2.2.1 | exact c_46 q.2.2.2.1 | exact c_60 q.2.2.2.2⟩) _ (lv_sub hl [0, 1] rfl)
        · skip
          have c_46 := (nI_eq (by omega) (by omega)).mp c_46
          refine lv_aload_n hx hb dX10_alike_49 rfl (lv_at hl 0 rfl) ?_
          refine mg S hK hP (by omega) hM fd_X10_119 rfl dX10_alike_50 ?_
          refine lv_aload_n hx hb dX10_alike_53 rfl (lv_at hl 0 rfl) ?_
          refine mg S hK hP (by omega) hM fd_X10_75 rfl dX10_alike_54 ?_
          refine lv_iload_n hx hb dX10_alike_57 rfl (lv_at hl 1 rfl) ?_
          refine mlal S hK hP (by omega) hq4 (vp_in_nI (by omega) (by omega)) dX10_alike_58 ?_
          refine tpl (congrArg QO (nI_clamp (by omega))) ?_
          refine tpl (hKq.2.2.2.2.2) ?_
          refine W.lcmp hx hb dX10_alike_59 ?_
          refine lv_if_ne (tgt := 67) hx hb dX10_alike_60 (by decide) (fun c_60 => ?_) (fun c_60 => ?_)
          · skip
            have c_60 := (not_congr (lgN_eq ho ho2)).mp c_60
            refine lv_iconst (v := nI (0)) hx hb dX10_alike_67 (by decide) ?_
            exact J68 0 (Or.inr ⟨rfl, fun q => by first | exact c_20 ((asW_pk hw hKq.1 hKq.2.1 hPw).mpr q.2.1) | exact c_33 q.2.2.1 | exact c_46 q.2.2.2.1 | exact c_60 q.2.2.2.2⟩) _ (lv_sub hl [0, 1] rfl)
          · skip
            have c_60 := (lgN_eq ho ho2).mp c_60
            refine lv_iconst (v := nI (1)) hx hb dX10_alike_63 (by decide) ?_
            refine lv_goto (tgt := 68) hx hb dX10_alike_64 (by decide) ?_
            exact J68 1 (Or.inl ⟨rfl, hKq.2.1.symm, (asW_pk hw hKq.1 hKq.2.1 hPw).mp c_20, c_33, c_46, c_60⟩) _ (lv_sub hl [0, 1] rfl)
  · skip
    have c_5 := bz_eq.mp c_5
    have hJ : ¬ isI x0 ps := c_5
    refine lv_iconst (v := (-1)) hx hb dX10_alike_8 (by decide) ?_
    exact rSi S hr hlk (if_neg hJ).symm dX10_alike_9
set_option maxHeartbeats 4000000 in
set_option maxRecDepth 100000 in
theorem c_X10_ring (l : Launch) (D : va_G) (cy : Nat → ClassId) (ad : Nat → Nat) (N : Nat) (g : Nat → va_E) (hinj : ∀ i j : Nat, i < N → j < N → ad i = ad j → i = j) (hN : 145 ≤ N) (w : WT) (un : Nat) (la : Int32) (bo : Int32) (tp : Nat) (ft : Int32) (wr0 : Nat) (wa : Nat) (at0 : Nat) (sp : Nat) (tk : Nat) (vl : Int32) (fi : Nat) (nm : Nat) (dp : Nat) (wy : Int32) (st : Int32) (aP : Nat) (aF : Nat) (aH : Nat) (aO : Nat) (ps : Nat) (mn : Nat) (go : Int32) (vi : Nat) (hM : g 114 = mob ad (nI (wn w)) (nI (wf w)) (nI (wh w)) (lN (wo w)) (nI (un)) la bo (nI (tp)) ft (nI (wr0)) (nI (wa)) (nI (at0)) (nI (sp)) (nI (tk)) vl (nI (fi)) (nI (nm)) (nI (dp)) wy st (nI (aP)) (nI (aF)) (nI (aH)) (lN aO) (nI (ps)) (nI (mn)) go (nI (vi))) (P : Nat → Nat) (hP9 : g 115 = .inl (cy 1, 8, .inl (fun x9 => nI (P x9)))) (hw : WOK w) (hPw : ∀ i, i < wn w → P i = wp w i) (x0 : Int32) : Met l yX10_ring (WS yX10_ring cX10_ring 3 (some .int)) (rmF 1 25) (PP [.ref (ad 114), .int x0] D cy ad N g) (QI (fun r g1 => ∃ (P2 : Nat → Nat), (r = if rgI x0 then 1 else -1) ∧ (∀ i, i < wn (if rgI x0 then bgW x0.toNatClampNeg else w) → P2 i = wp (if rgI x0 then bgW x0.toNatClampNeg else w) i) ∧ g1 114 = mob ad (nI (wn ((if rgI x0 then bgW x0.toNatClampNeg else w)))) (nI (wf ((if rgI x0 then bgW x0.toNatClampNeg else w)))) (nI (wh ((if rgI x0 then bgW x0.toNatClampNeg else w)))) (lN (wo ((if rgI x0 then bgW x0.toNatClampNeg else w)))) (nI (if rgI x0 then 0 else un)) la bo (nI (tp)) ft (nI (wr0)) (nI (wa)) (nI (at0)) (nI (sp)) (nI (tk)) vl (nI (fi)) (nI (nm)) (nI (dp)) wy st (nI (aP)) (nI (aF)) (nI (aH)) (lN aO) (nI (if rgI x0 then 0 else ps)) (nI (mn)) go (nI (vi)) ∧ g1 115 = .inl (cy 1, 8, .inl (fun x9 => nI (P2 x9))) ∧ (∀ j, j ≠ 114 → j ≠ 115 → g1 j = g j)) D ad N) 0 0 (AA ad N) := by
  refine mentry (by decide) (Nat.le_of_ble_eq_true rfl) (fun p e s m below meth c ls S hr hlk hnm hP hK hl => ?_)
  have S : CallFix p m c cX10_ring 3 s _ wsL_law RX10 := S
  have hx := S.1
  have hb := S.2.1
  have hl : lv_has ls 3 [(0, .ref (ad 114)), (1, .int x0)] := hl
  have hI : MD (AA ad N) ad N := MD.in hinj
  have hS : va_S (AA ad N) s.heap s.heap [] := va_S.rf
  have hfr : ∀ j : Nat, g j = g j := fun _ => rfl
  refine lv_iload_n hx hb dX10_ring_0 rfl (lv_at hl 1 rfl) ?_
  refine lv_i2l hx hb dX10_ring_1 rfl ?_
  refine lv_ldc2 hx hb S.2.2.2.1 (S.2.2.2.2 _ m_X10_111) dX10_ring_2 ?_
  refine tpl (show (4 : Int64) = lN 4 from rfl) ?_
  refine lv_ldc2 hx hb S.2.2.2.1 (S.2.2.2.2 _ m_X10_113) dX10_ring_5 ?_
  refine tpl (show (8 : Int64) = lN 8 from rfl) ?_
  refine kSi (As := [.long x0.toInt64, .long (lN 4), .long (lN 8)]) (rest := []) S hK hP (c_X10_in l D cy ad N g x0.toInt64 (lN 4) (lN 8)) cs_X10_115 ⟨rfl, rfl⟩ rfl hl.1 rfl (Nat.le_of_ble_eq_true rfl) ⟨Nat.zero_le _, Nat.zero_le _⟩ dX10_ring_8 (fun r_8 q_8 => ?_)
  subst q_8
  refine tpi (ifC (in_45 (by omega) (by omega))) ?_
  refine lv_if_ne (tgt := 16) hx hb dX10_ring_11 (by decide) (fun c_11 => ?_) (fun c_11 => ?_)
  · skip
    have c_11 := bz_ne.mp c_11
    obtain ⟨k0, hk0b, rfl⟩ := rg_nat c_11.1 c_11.2
    have hJ := c_11
    have hk031 : k0 < 2 ^ 31 := by omega
    have hz : 1 ≤ 2 ^ k0 := Nat.one_le_two_pow
    refine lv_aload_n hx hb dX10_ring_16 rfl (lv_at hl 0 rfl) ?_
    refine lv_iload_n hx hb dX10_ring_17 rfl (lv_at hl 1 rfl) ?_
    refine mp S hK hP hI hS (by omega) hM fd_X10_7 rfl rfl (Nat.le_of_ble_eq_true rfl) dX10_ring_18 (fun g_1 H locs eg_1 hP hS => ?_)
    have h114_1 : g_1 114 = mob ad (nI (k0)) (nI (wf w)) (nI (wh w)) (lN (wo w)) (nI (un)) la bo (nI (tp)) ft (nI (wr0)) (nI (wa)) (nI (at0)) (nI (sp)) (nI (tk)) vl (nI (fi)) (nI (nm)) (nI (dp)) wy st (nI (aP)) (nI (aF)) (nI (aH)) (lN aO) (nI (ps)) (nI (mn)) go (nI (vi)) := by rw [eg_1, va_up_self]; exact rfl
    have h115_1 : g_1 115 = .inl (cy 1, 8, .inl (fun x9 => nI (P x9))) := ((congrFun eg_1 _).trans (va_up_ne _ _ (by omega))).trans hP9
    have hfr_1 : ∀ j : Nat, j ≠ 114 → g_1 j = g j := fun j n0 => ((congrFun eg_1 _).trans (va_up_ne _ _ n0)).trans (hfr j )
    refine lv_iconst (v := nI (0)) hx hb dX10_ring_21 (by decide) ?_
    refine lv_istore_n (lv' := [(2, .int (nI (0))), (0, .ref (ad 114)), (1, .int (nI (k0)))]) hx hb dX10_ring_22 rfl hl (by decide) rfl (fun ls hl => ?_)
    have L23 : ∀ (fu : Nat) (i : Nat), (i ≤ 8) → (8 - i) < fu → ∀ (g_2 : Nat → va_E) (H : Heap) (locs : List Loc), g_2 114 = mob ad (nI (k0)) (nI (wf w)) (nI (wh w)) (lN (wo w)) (nI (un)) la bo (nI (tp)) ft (nI (wr0)) (nI (wa)) (nI (at0)) (nI (sp)) (nI (tk)) vl (nI (fi)) (nI (nm)) (nI (dp)) wy st (nI (aP)) (nI (aF)) (nI (aH)) (lN aO) (nI (ps)) (nI (mn)) go (nI (vi)) → g_2 115 = .inl (cy 1, 8, .inl (fun x9 => nI ((idP i P) x9))) → (∀ j : Nat, j ≠ 114 → j ≠ 115 → g_2 j = g j) → MM D ad N g_2 H → va_S (AA ad N) s.heap H locs → ∀ (ls : Array Slot), lv_has ls 3 [(2, .int (nI (i))), (0, .ref (ad 114)), (1, .int (nI (k0)))] → W p l e (rmF 1 25) s m [.ref (ad 114), .int (nI k0)].toArray below meth c H locs 0 0 (MQ below (QI (fun r g1 => ∃ (P2 : Nat → Nat), (r = if rgI (nI k0) then 1 else -1) ∧ (∀ i, i < wn (if rgI (nI k0) then bgW (nI k0).toNatClampNeg else w) → P2 i = wp (if rgI (nI k0) then bgW (nI k0).toNatClampNeg else w) i) ∧ g1 114 = mob ad (nI (wn ((if rgI (nI k0) then bgW (nI k0).toNatClampNeg else w)))) (nI (wf ((if rgI (nI k0) then bgW (nI k0).toNatClampNeg else w)))) (nI (wh ((if rgI (nI k0) then bgW (nI k0).toNatClampNeg else w)))) (lN (wo ((if rgI (nI k0) then bgW (nI k0).toNatClampNeg else w)))) (nI (if rgI (nI k0) then 0 else un)) la bo (nI (tp)) ft (nI (wr0)) (nI (wa)) (nI (at0)) (nI (sp)) (nI (tk)) vl (nI (fi)) (nI (nm)) (nI (dp)) wy st (nI (aP)) (nI (aF)) (nI (aH)) (lN aO) (nI (if rgI (nI k0) then 0 else ps)) (nI (mn)) go (nI (vi)) ∧ g1 115 = .inl (cy 1, 8, .inl (fun x9 => nI (P2 x9))) ∧ (∀ j, j ≠ 114 → j ≠ 115 → g1 j = g j)) D ad N) [.ref (ad 114), .int (nI k0)].toArray s 0 0 (AA ad N)) (F0 m 23 ls []) := by
      intro fu
      induction fu with
      | zero => intro i hi hms g_2 H locs h114_2 h115_2 hfr_2 hP hS ls hl; exact absurd hms (Nat.not_lt_zero _)
      | succ fu ih23 =>
        intro i hi hms g_2 H locs h114_2 h115_2 hfr_2 hP hS ls hl
        refine lv_iload_n hx hb dX10_ring_23 rfl (lv_at hl 0 rfl) ?_
        refine lv_bipush (v := nI (8)) hx hb dX10_ring_24 (by decide) ?_
        refine lv_icmp_ge (tgt := 42) hx hb dX10_ring_26 (by decide) (fun c_26 => ?_) (fun c_26 => ?_)
        · skip
          have c_26 := (nI_leI (by omega) (by omega)).mp c_26
          refine lv_aload_n hx hb dX10_ring_42 rfl (lv_at hl 1 rfl) ?_
          refine lv_iconst (v := nI (1)) hx hb dX10_ring_43 (by decide) ?_
          refine lv_aload_n hx hb dX10_ring_44 rfl (lv_at hl 1 rfl) ?_
          refine mg S hK hP (by omega) h114_2 fd_X10_7 rfl dX10_ring_45 ?_
          refine lv_ishl hx hb dX10_ring_48 ?_
          refine tpi (shlN 1 (by omega)) ?_
          refine tpi (by rw [Nat.one_mul]) ?_
          refine lv_iconst (v := nI (1)) hx hb dX10_ring_49 (by decide) ?_
          refine lv_isub hx hb dX10_ring_50 ?_
          refine tpi (pk_sub (a := 2 ^ k0) (b := 1) (by omega)) ?_
          refine mp S hK hP hI hS (by omega) h114_2 fd_X10_17 rfl rfl (Nat.le_of_ble_eq_true rfl) dX10_ring_51 (fun g_3 H locs eg_3 hP hS => ?_)
          have h114_3 : g_3 114 = mob ad (nI (k0)) (nI ((2 ^ k0) - 1)) (nI (wh w)) (lN (wo w)) (nI (un)) la bo (nI (tp)) ft (nI (wr0)) (nI (wa)) (nI (at0)) (nI (sp)) (nI (tk)) vl (nI (fi)) (nI (nm)) (nI (dp)) wy st (nI (aP)) (nI (aF)) (nI (aH)) (lN aO) (nI (ps)) (nI (mn)) go (nI (vi)) := by rw [eg_3, va_up_self]; exact rfl
          have h115_3 : g_3 115 = .inl (cy 1, 8, .inl (fun x9 => nI ((idP i P) x9))) := ((congrFun eg_3 _).trans (va_up_ne _ _ (by omega))).trans h115_2
          have hfr_3 : ∀ j : Nat, j ≠ 114 → j ≠ 115 → g_3 j = g j := fun j n0 n1 => ((congrFun eg_3 _).trans (va_up_ne _ _ n0)).trans (hfr_2 j n0 n1)
          refine lv_aload_n hx hb dX10_ring_54 rfl (lv_at hl 1 rfl) ?_
          refine lv_iconst (v := nI (1)) hx hb dX10_ring_55 (by decide) ?_
          refine lv_aload_n hx hb dX10_ring_56 rfl (lv_at hl 1 rfl) ?_
          refine mg S hK hP (by omega) h114_3 fd_X10_7 rfl dX10_ring_57 ?_
          refine lv_ishl hx hb dX10_ring_60 ?_
          refine tpi (shlN 1 (by omega)) ?_
          refine tpi (by rw [Nat.one_mul]) ?_
          refine lv_iconst (v := nI (1)) hx hb dX10_ring_61 (by decide) ?_
          refine lv_isub hx hb dX10_ring_62 ?_
          refine tpi (pk_sub (a := 2 ^ k0) (b := 1) (by omega)) ?_
          refine mp S hK hP hI hS (by omega) h114_3 fd_X10_20 rfl rfl (Nat.le_of_ble_eq_true rfl) dX10_ring_63 (fun g_4 H locs eg_4 hP hS => ?_)
          have h114_4 : g_4 114 = mob ad (nI (k0)) (nI ((2 ^ k0) - 1)) (nI ((2 ^ k0) - 1)) (lN (wo w)) (nI (un)) la bo (nI (tp)) ft (nI (wr0)) (nI (wa)) (nI (at0)) (nI (sp)) (nI (tk)) vl (nI (fi)) (nI (nm)) (nI (dp)) wy st (nI (aP)) (nI (aF)) (nI (aH)) (lN aO) (nI (ps)) (nI (mn)) go (nI (vi)) := by rw [eg_4, va_up_self]; exact rfl
          have h115_4 : g_4 115 = .inl (cy 1, 8, .inl (fun x9 => nI ((idP i P) x9))) := ((congrFun eg_4 _).trans (va_up_ne _ _ (by omega))).trans h115_3
          have hfr_4 : ∀ j : Nat, j ≠ 114 → j ≠ 115 → g_4 j = g j := fun j n0 n1 => ((congrFun eg_4 _).trans (va_up_ne _ _ n0)).trans (hfr_3 j n0 n1)
          refine lv_aload_n hx hb dX10_ring_66 rfl (lv_at hl 1 rfl) ?_
          refine lv_lconst (v := lN 0) hx hb dX10_ring_67 (by decide) ?_
          refine mp S hK hP hI hS (by omega) h114_4 fd_X10_119 rfl rfl (Nat.le_of_ble_eq_true rfl) dX10_ring_68 (fun g_5 H locs eg_5 hP hS => ?_)
          have h114_5 : g_5 114 = mob ad (nI (k0)) (nI ((2 ^ k0) - 1)) (nI ((2 ^ k0) - 1)) (lN 0) (nI (un)) la bo (nI (tp)) ft (nI (wr0)) (nI (wa)) (nI (at0)) (nI (sp)) (nI (tk)) vl (nI (fi)) (nI (nm)) (nI (dp)) wy st (nI (aP)) (nI (aF)) (nI (aH)) (lN aO) (nI (ps)) (nI (mn)) go (nI (vi)) := by rw [eg_5, va_up_self]; exact rfl
          have h115_5 : g_5 115 = .inl (cy 1, 8, .inl (fun x9 => nI ((idP i P) x9))) := ((congrFun eg_5 _).trans (va_up_ne _ _ (by omega))).trans h115_4
          have hfr_5 : ∀ j : Nat, j ≠ 114 → j ≠ 115 → g_5 j = g j := fun j n0 n1 => ((congrFun eg_5 _).trans (va_up_ne _ _ n0)).trans (hfr_4 j n0 n1)
          refine lv_aload_n hx hb dX10_ring_71 rfl (lv_at hl 1 rfl) ?_
          refine lv_iconst (v := nI (0)) hx hb dX10_ring_72 (by decide) ?_
          refine mp S hK hP hI hS (by omega) h114_5 fd_X10_123 rfl rfl (Nat.le_of_ble_eq_true rfl) dX10_ring_73 (fun g_6 H locs eg_6 hP hS => ?_)
          have h114_6 : g_6 114 = mob ad (nI (k0)) (nI ((2 ^ k0) - 1)) (nI ((2 ^ k0) - 1)) (lN 0) (nI (0)) la bo (nI (tp)) ft (nI (wr0)) (nI (wa)) (nI (at0)) (nI (sp)) (nI (tk)) vl (nI (fi)) (nI (nm)) (nI (dp)) wy st (nI (aP)) (nI (aF)) (nI (aH)) (lN aO) (nI (ps)) (nI (mn)) go (nI (vi)) := by rw [eg_6, va_up_self]; exact rfl
          have h115_6 : g_6 115 = .inl (cy 1, 8, .inl (fun x9 => nI ((idP i P) x9))) := ((congrFun eg_6 _).trans (va_up_ne _ _ (by omega))).trans h115_5
          have hfr_6 : ∀ j : Nat, j ≠ 114 → j ≠ 115 → g_6 j = g j := fun j n0 n1 => ((congrFun eg_6 _).trans (va_up_ne _ _ n0)).trans (hfr_5 j n0 n1)
          refine lv_aload_n hx hb dX10_ring_76 rfl (lv_at hl 1 rfl) ?_
          refine lv_iconst (v := nI (0)) hx hb dX10_ring_77 (by decide) ?_
          refine mp S hK hP hI hS (by omega) h114_6 fd_X10_126 rfl rfl (Nat.le_of_ble_eq_true rfl) dX10_ring_78 (fun g_7 H locs eg_7 hP hS => ?_)
          have h114_7 : g_7 114 = mob ad (nI (k0)) (nI ((2 ^ k0) - 1)) (nI ((2 ^ k0) - 1)) (lN 0) (nI (0)) la bo (nI (tp)) ft (nI (wr0)) (nI (wa)) (nI (at0)) (nI (sp)) (nI (tk)) vl (nI (fi)) (nI (nm)) (nI (dp)) wy st (nI (aP)) (nI (aF)) (nI (aH)) (lN aO) (nI (0)) (nI (mn)) go (nI (vi)) := by rw [eg_7, va_up_self]; exact rfl
          have h115_7 : g_7 115 = .inl (cy 1, 8, .inl (fun x9 => nI ((idP i P) x9))) := ((congrFun eg_7 _).trans (va_up_ne _ _ (by omega))).trans h115_6
          have hfr_7 : ∀ j : Nat, j ≠ 114 → j ≠ 115 → g_7 j = g j := fun j n0 n1 => ((congrFun eg_7 _).trans (va_up_ne _ _ n0)).trans (hfr_6 j n0 n1)
          refine lv_iconst (v := nI (1)) hx hb dX10_ring_81 (by decide) ?_
          exact rMi S hr hlk hP hS ⟨_, (if_pos hJ).symm, (by simp only [if_pos hJ, nI_clamp hk031]; intro i hi; exact if_pos (show i < _ by have h8 : wn (bgW k0) = k0 := rfl; omega)), (by simp only [if_pos hJ, nI_clamp hk031]; exact h114_7), h115_7, hfr_7⟩ dX10_ring_82
        · skip
          have c_26 := (not_congr (nI_leI (by omega) (by omega))).mp c_26
          refine lv_aload_n hx hb dX10_ring_29 rfl (lv_at hl 1 rfl) ?_
          refine mg S hK hP (by omega) h114_2 fd_X10_13 rfl dX10_ring_30 ?_
          refine lv_iload_n hx hb dX10_ring_33 rfl (lv_at hl 0 rfl) ?_
          refine lv_iload_n hx hb dX10_ring_34 rfl (lv_at hl 0 rfl) ?_
          refine mias S hK hP hI hS (by omega) h115_2 (vp_in_nI (by omega) (by omega)) dX10_ring_35 (fun g_8 H locs eg_8 hP hS => ?_)
          have h115_8 : g_8 115 = .inl (cy 1, 8, .inl (fun x9 => nI ((va_up (idP i P) i i) x9))) := by rw [eg_8, va_up_self]; exact (arrN_up (by omega))
          have h114_8 : g_8 114 = mob ad (nI (k0)) (nI (wf w)) (nI (wh w)) (lN (wo w)) (nI (un)) la bo (nI (tp)) ft (nI (wr0)) (nI (wa)) (nI (at0)) (nI (sp)) (nI (tk)) vl (nI (fi)) (nI (nm)) (nI (dp)) wy st (nI (aP)) (nI (aF)) (nI (aH)) (lN aO) (nI (ps)) (nI (mn)) go (nI (vi)) := ((congrFun eg_8 _).trans (va_up_ne _ _ (by omega))).trans h114_2
          have hfr_8 : ∀ j : Nat, j ≠ 114 → j ≠ 115 → g_8 j = g j := fun j n0 n1 => ((congrFun eg_8 _).trans (va_up_ne _ _ n1)).trans (hfr_2 j n0 n1)
          refine lv_iinc (v := nI (i + 1)) (lv' := [(2, .int (nI (i + 1))), (0, .ref (ad 114)), (1, .int (nI (k0)))]) hx hb dX10_ring_36 hl (k := 0) rfl (by exact nI_add i 1) (by decide) rfl (fun ls hl => ?_)
          refine lv_goto (tgt := 23) hx hb dX10_ring_39 (by decide) ?_
          exact ih23 (i + 1) (by omega) (by omega) g_8 _ _ h114_8 (by rw [idP_s] at h115_8; exact h115_8) hfr_8 hP hS _ (lv_sub hl [0, 1, 2] rfl)
    exact L23 ((8 - 0) + 1) 0 (by omega) (Nat.lt_succ_self _) g_1 _ _ h114_1 (by rw [idP_0]; assumption) (fun j n0 n1 => hfr_1 j (by omega)) hP hS _ (lv_sub hl [0, 1, 2] rfl)
  · skip
    have c_11 := bz_eq.mp c_11
    have hJ : ¬ rgI x0 := c_11
    refine lv_iconst (v := (-1)) hx hb dX10_ring_14 (by decide) ?_
    exact rMi S hr hlk hP hS ⟨_, (if_neg hJ).symm, (by simp only [if_neg hJ]; exact hPw), (by simp only [if_neg hJ]; exact hM), hP9, (fun j n0 n1 => hfr j )⟩ dX10_ring_15

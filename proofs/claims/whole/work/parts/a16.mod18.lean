set_option maxHeartbeats 4000000 in
set_option maxRecDepth 100000 in
theorem c_X10_beat (l : Launch) (D : va_G) (cy : Nat → ClassId) (ad : Nat → Nat) (N : Nat) (g : Nat → va_E) (hinj : ∀ i j : Nat, i < N → j < N → ad i = ad j → i = j) (hN : 145 ≤ N) (n : Nat) (fa : Nat) (he : Nat) (ov : Nat) (un : Nat) (la : Int32) (bo : Int32) (tp : Nat) (ft : Int32) (wr0 : Nat) (wa : Nat) (at0 : Nat) (sp : Nat) (tk : Nat) (vl : Int32) (fi : Nat) (nm : Nat) (dp : Nat) (wy : Int32) (st : Int32) (aP : Nat) (aF : Nat) (aH : Nat) (aO : Nat) (ps : Nat) (mn : Nat) (go : Int32) (vi : Nat) (hM : g 114 = mob ad (nI (n)) (nI (fa)) (nI (he)) (lN ov) (nI (un)) la bo (nI (tp)) ft (nI (wr0)) (nI (wa)) (nI (at0)) (nI (sp)) (nI (tk)) vl (nI (fi)) (nI (nm)) (nI (dp)) wy st (nI (aP)) (nI (aF)) (nI (aH)) (lN aO) (nI (ps)) (nI (mn)) go (nI (vi))) (NS : Nat → Nat) (hNS : g 125 = .inl (cy 1, 201, .inl (fun x9 => nI (NS x9)))) (NN : Nat → Nat) (hNN : g 126 = .inl (cy 1, 201, .inl (fun x9 => nI (NN x9)))) (len : Nat) (B : Nat → Nat) (ov0 : Nat) (S0 : Nat) (K0 : Nat) (hNR : NRt len B ov0 nm NS NN) (hSK : nm < 200 → S0 ≤ 6 ∧ K0 < 8) : Met l yX10_beat (WS yX10_beat cX10_beat 3 none) (rmF 0 0) (PP [.ref (ad 114), .int (nI (S0)), .int (nI (K0))] D cy ad N g) (QV (fun g1 => ∃ (nm2 : Nat), ∃ (NS2 : Nat → Nat), ∃ (NN2 : Nat → Nat), (NRt (btL ov0 len) (btB ov0 len B (8 * S0 + K0)) (btO ov0 len) nm2 NS2 NN2) ∧ g1 114 = mob ad (nI (n)) (nI (fa)) (nI (he)) (lN ov) (nI (un)) la bo (nI (tp)) ft (nI (wr0)) (nI (wa)) (nI (at0)) (nI (sp)) (nI (tk)) vl (nI (fi)) (nI (nm2)) (nI (dp)) wy st (nI (aP)) (nI (aF)) (nI (aH)) (lN aO) (nI (ps)) (nI (mn)) go (nI (vi)) ∧ g1 125 = .inl (cy 1, 201, .inl (fun x9 => nI (NS2 x9))) ∧ g1 126 = .inl (cy 1, 201, .inl (fun x9 => nI (NN2 x9))) ∧ (∀ j, j ≠ 114 → j ≠ 125 → j ≠ 126 → g1 j = g j)) D ad N) 0 0 (AA ad N) := by
  refine mentry (by decide) (Nat.le_of_ble_eq_true rfl) (fun p e s m below meth c ls S hr hlk hnm hP hK hl => ?_)
  have S : CallFix p m c cX10_beat 3 s _ wsL_law RX10 := S
  have hx := S.1
  have hb := S.2.1
  have hl : lv_has ls 3 [(0, .ref (ad 114)), (1, .int (nI (S0))), (2, .int (nI (K0)))] := hl
  have hI : MD (AA ad N) ad N := MD.in hinj
  have hS : va_S (AA ad N) s.heap s.heap [] := va_S.rf
  have hfr : ∀ j : Nat, g j = g j := fun _ => rfl
  have hnm : nm ≤ 201 := by have h1 := hNR.1; have h4 := hNR.2.2.2.1; split at h4 <;> omega
  refine lv_aload_n hx hb dX10_beat_0 rfl (lv_at hl 0 rfl) ?_
  refine mg S hK hP (by omega) hM fd_X10_256 rfl dX10_beat_1 ?_
  refine lv_sipush (v := nI (200)) hx hb dX10_beat_4 (by decide) ?_
  refine lv_icmp_gt (tgt := 72) hx hb dX10_beat_7 (by decide) (fun c_7 => ?_) (fun c_7 => ?_)
  · skip
    have c_7 := (nI_ltI (by omega) (by omega)).mp c_7
    exact rMv S hr hlk hP hS ⟨_, _, _, (NR_c hNR (by omega)), hM, hNS, hNN, (fun j n0 n1 n2 => hfr j )⟩ dX10_beat_72
  · skip
    have c_7 := (not_congr (nI_ltI (by omega) (by omega))).mp c_7
    refine lv_aload_n hx hb dX10_beat_10 rfl (lv_at hl 0 rfl) ?_
    refine mg S hK hP (by omega) hM fd_X10_51 rfl dX10_beat_11 ?_
    refine lv_aload_n hx hb dX10_beat_14 rfl (lv_at hl 0 rfl) ?_
    refine mg S hK hP (by omega) hM fd_X10_256 rfl dX10_beat_15 ?_
    refine lv_sipush (v := nI (200)) hx hb dX10_beat_18 (by decide) ?_
    refine lv_icmp_ge (tgt := 31) hx hb dX10_beat_21 (by decide) (fun c_21 => ?_) (fun c_21 => ?_)
    · skip
      have c_21 := (nI_leI (by omega) (by omega)).mp c_21
      refine lv_sipush (v := nI (200)) hx hb dX10_beat_31 (by decide) ?_
      refine lv_iload_n hx hb dX10_beat_34 rfl (lv_at hl 1 rfl) ?_
      refine mias S hK hP hI hS (by omega) hNS (vp_in_nI (by omega) (by omega)) dX10_beat_35 (fun g_1 H locs eg_1 hP hS => ?_)
      have h125_1 : g_1 125 = .inl (cy 1, 201, .inl (fun x9 => nI ((va_up NS 200 S0) x9))) := by rw [eg_1, va_up_self]; exact (arrN_up (by omega))
      have h114_1 : g_1 114 = mob ad (nI (n)) (nI (fa)) (nI (he)) (lN ov) (nI (un)) la bo (nI (tp)) ft (nI (wr0)) (nI (wa)) (nI (at0)) (nI (sp)) (nI (tk)) vl (nI (fi)) (nI (nm)) (nI (dp)) wy st (nI (aP)) (nI (aF)) (nI (aH)) (lN aO) (nI (ps)) (nI (mn)) go (nI (vi)) := ((congrFun eg_1 _).trans (va_up_ne _ _ (by omega))).trans hM
      have h126_1 : g_1 126 = .inl (cy 1, 201, .inl (fun x9 => nI (NN x9))) := ((congrFun eg_1 _).trans (va_up_ne _ _ (by omega))).trans hNN
      have hfr_1 : ∀ j : Nat, j ≠ 125 → g_1 j = g j := fun j n0 => ((congrFun eg_1 _).trans (va_up_ne _ _ n0)).trans (hfr j )
      refine lv_aload_n hx hb dX10_beat_36 rfl (lv_at hl 0 rfl) ?_
      refine mg S hK hP (by omega) h114_1 fd_X10_54 rfl dX10_beat_37 ?_
      refine lv_aload_n hx hb dX10_beat_40 rfl (lv_at hl 0 rfl) ?_
      refine mg S hK hP (by omega) h114_1 fd_X10_256 rfl dX10_beat_41 ?_
      refine lv_sipush (v := nI (200)) hx hb dX10_beat_44 (by decide) ?_
      refine lv_icmp_ge (tgt := 57) hx hb dX10_beat_47 (by decide) (fun c_47 => ?_) (fun c_47 => ?_)
      · skip
        have c_47 := (nI_leI (by omega) (by omega)).mp c_47
        refine lv_sipush (v := nI (200)) hx hb dX10_beat_57 (by decide) ?_
        refine lv_iload_n hx hb dX10_beat_60 rfl (lv_at hl 2 rfl) ?_
        refine mias S hK hP hI hS (by omega) h126_1 (vp_in_nI (by omega) (by omega)) dX10_beat_61 (fun g_2 H locs eg_2 hP hS => ?_)
        have h126_2 : g_2 126 = .inl (cy 1, 201, .inl (fun x9 => nI ((va_up NN 200 K0) x9))) := by rw [eg_2, va_up_self]; exact (arrN_up (by omega))
        have h114_2 : g_2 114 = mob ad (nI (n)) (nI (fa)) (nI (he)) (lN ov) (nI (un)) la bo (nI (tp)) ft (nI (wr0)) (nI (wa)) (nI (at0)) (nI (sp)) (nI (tk)) vl (nI (fi)) (nI (nm)) (nI (dp)) wy st (nI (aP)) (nI (aF)) (nI (aH)) (lN aO) (nI (ps)) (nI (mn)) go (nI (vi)) := ((congrFun eg_2 _).trans (va_up_ne _ _ (by omega))).trans h114_1
        have h125_2 : g_2 125 = .inl (cy 1, 201, .inl (fun x9 => nI ((va_up NS 200 S0) x9))) := ((congrFun eg_2 _).trans (va_up_ne _ _ (by omega))).trans h125_1
        have hfr_2 : ∀ j : Nat, j ≠ 125 → j ≠ 126 → g_2 j = g j := fun j n0 n1 => ((congrFun eg_2 _).trans (va_up_ne _ _ n1)).trans (hfr_1 j n0)
        refine lv_aload_n hx hb dX10_beat_62 rfl (lv_at hl 0 rfl) ?_
        refine lv_dup hx hb dX10_beat_63 rfl ?_
        refine mg S hK hP (by omega) h114_2 fd_X10_256 rfl dX10_beat_64 ?_
        refine lv_iconst (v := nI (1)) hx hb dX10_beat_67 (by decide) ?_
        refine lv_iadd hx hb dX10_beat_68 ?_
        refine tpi (nI_add nm 1) ?_
        refine mp S hK hP hI hS (by omega) h114_2 fd_X10_256 rfl rfl (Nat.le_of_ble_eq_true rfl) dX10_beat_69 (fun g_3 H locs eg_3 hP hS => ?_)
        have h114_3 : g_3 114 = mob ad (nI (n)) (nI (fa)) (nI (he)) (lN ov) (nI (un)) la bo (nI (tp)) ft (nI (wr0)) (nI (wa)) (nI (at0)) (nI (sp)) (nI (tk)) vl (nI (fi)) (nI (nm + 1)) (nI (dp)) wy st (nI (aP)) (nI (aF)) (nI (aH)) (lN aO) (nI (ps)) (nI (mn)) go (nI (vi)) := by rw [eg_3, va_up_self]; exact rfl
        have h125_3 : g_3 125 = .inl (cy 1, 201, .inl (fun x9 => nI ((va_up NS 200 S0) x9))) := ((congrFun eg_3 _).trans (va_up_ne _ _ (by omega))).trans h125_2
        have h126_3 : g_3 126 = .inl (cy 1, 201, .inl (fun x9 => nI ((va_up NN 200 K0) x9))) := ((congrFun eg_3 _).trans (va_up_ne _ _ (by omega))).trans h126_2
        have hfr_3 : ∀ j : Nat, j ≠ 125 → j ≠ 126 → j ≠ 114 → g_3 j = g j := fun j n0 n1 n2 => ((congrFun eg_3 _).trans (va_up_ne _ _ n2)).trans (hfr_2 j n0 n1)
        exact rMv S hr hlk hP hS ⟨_, _, _, (NR_b hNR (by omega) (by omega)), h114_3, h125_3, h126_3, (fun j n0 n1 n2 => hfr_3 j (by omega) (by omega) (by omega))⟩ dX10_beat_72
      · skip
        have c_47 := (not_congr (nI_leI (by omega) (by omega))).mp c_47
        exact absurd c_47 (by omega)
    · skip
      have c_21 := (not_congr (nI_leI (by omega) (by omega))).mp c_21
      refine lv_aload_n hx hb dX10_beat_24 rfl (lv_at hl 0 rfl) ?_
      refine mg S hK hP (by omega) hM fd_X10_256 rfl dX10_beat_25 ?_
      refine lv_goto (tgt := 34) hx hb dX10_beat_28 (by decide) ?_
      refine lv_iload_n hx hb dX10_beat_34 rfl (lv_at hl 1 rfl) ?_
      refine mias S hK hP hI hS (by omega) hNS (vp_in_nI (by omega) (by omega)) dX10_beat_35 (fun g_4 H locs eg_4 hP hS => ?_)
      have h125_4 : g_4 125 = .inl (cy 1, 201, .inl (fun x9 => nI ((va_up NS nm S0) x9))) := by rw [eg_4, va_up_self]; exact (arrN_up (by omega))
      have h114_4 : g_4 114 = mob ad (nI (n)) (nI (fa)) (nI (he)) (lN ov) (nI (un)) la bo (nI (tp)) ft (nI (wr0)) (nI (wa)) (nI (at0)) (nI (sp)) (nI (tk)) vl (nI (fi)) (nI (nm)) (nI (dp)) wy st (nI (aP)) (nI (aF)) (nI (aH)) (lN aO) (nI (ps)) (nI (mn)) go (nI (vi)) := ((congrFun eg_4 _).trans (va_up_ne _ _ (by omega))).trans hM
      have h126_4 : g_4 126 = .inl (cy 1, 201, .inl (fun x9 => nI (NN x9))) := ((congrFun eg_4 _).trans (va_up_ne _ _ (by omega))).trans hNN
      have hfr_4 : ∀ j : Nat, j ≠ 125 → g_4 j = g j := fun j n0 => ((congrFun eg_4 _).trans (va_up_ne _ _ n0)).trans (hfr j )
      refine lv_aload_n hx hb dX10_beat_36 rfl (lv_at hl 0 rfl) ?_
      refine mg S hK hP (by omega) h114_4 fd_X10_54 rfl dX10_beat_37 ?_
      refine lv_aload_n hx hb dX10_beat_40 rfl (lv_at hl 0 rfl) ?_
      refine mg S hK hP (by omega) h114_4 fd_X10_256 rfl dX10_beat_41 ?_
      refine lv_sipush (v := nI (200)) hx hb dX10_beat_44 (by decide) ?_
      refine lv_icmp_ge (tgt := 57) hx hb dX10_beat_47 (by decide) (fun c_47 => ?_) (fun c_47 => ?_)
      · skip
        have c_47 := (nI_leI (by omega) (by omega)).mp c_47
        exact absurd c_47 (by omega)
      · skip
        have c_47 := (not_congr (nI_leI (by omega) (by omega))).mp c_47
        refine lv_aload_n hx hb dX10_beat_50 rfl (lv_at hl 0 rfl) ?_
        refine mg S hK hP (by omega) h114_4 fd_X10_256 rfl dX10_beat_51 ?_
        refine lv_goto (tgt := 60) hx hb dX10_beat_54 (by decide) ?_
        refine lv_iload_n hx hb dX10_beat_60 rfl (lv_at hl 2 rfl) ?_
        refine mias S hK hP hI hS (by omega) h126_4 (vp_in_nI (by omega) (by omega)) dX10_beat_61 (fun g_5 H locs eg_5 hP hS => ?_)
        have h126_5 : g_5 126 = .inl (cy 1, 201, .inl (fun x9 => nI ((va_up NN nm K0) x9))) := by rw [eg_5, va_up_self]; exact (arrN_up (by omega))
        have h114_5 : g_5 114 = mob ad (nI (n)) (nI (fa)) (nI (he)) (lN ov) (nI (un)) la bo (nI (tp)) ft (nI (wr0)) (nI (wa)) (nI (at0)) (nI (sp)) (nI (tk)) vl (nI (fi)) (nI (nm)) (nI (dp)) wy st (nI (aP)) (nI (aF)) (nI (aH)) (lN aO) (nI (ps)) (nI (mn)) go (nI (vi)) := ((congrFun eg_5 _).trans (va_up_ne _ _ (by omega))).trans h114_4
        have h125_5 : g_5 125 = .inl (cy 1, 201, .inl (fun x9 => nI ((va_up NS nm S0) x9))) := ((congrFun eg_5 _).trans (va_up_ne _ _ (by omega))).trans h125_4
        have hfr_5 : ∀ j : Nat, j ≠ 125 → j ≠ 126 → g_5 j = g j := fun j n0 n1 => ((congrFun eg_5 _).trans (va_up_ne _ _ n1)).trans (hfr_4 j n0)
        refine lv_aload_n hx hb dX10_beat_62 rfl (lv_at hl 0 rfl) ?_
        refine lv_dup hx hb dX10_beat_63 rfl ?_
        refine mg S hK hP (by omega) h114_5 fd_X10_256 rfl dX10_beat_64 ?_
        refine lv_iconst (v := nI (1)) hx hb dX10_beat_67 (by decide) ?_
        refine lv_iadd hx hb dX10_beat_68 ?_
        refine tpi (nI_add nm 1) ?_
        refine mp S hK hP hI hS (by omega) h114_5 fd_X10_256 rfl rfl (Nat.le_of_ble_eq_true rfl) dX10_beat_69 (fun g_6 H locs eg_6 hP hS => ?_)
        have h114_6 : g_6 114 = mob ad (nI (n)) (nI (fa)) (nI (he)) (lN ov) (nI (un)) la bo (nI (tp)) ft (nI (wr0)) (nI (wa)) (nI (at0)) (nI (sp)) (nI (tk)) vl (nI (fi)) (nI (nm + 1)) (nI (dp)) wy st (nI (aP)) (nI (aF)) (nI (aH)) (lN aO) (nI (ps)) (nI (mn)) go (nI (vi)) := by rw [eg_6, va_up_self]; exact rfl
        have h125_6 : g_6 125 = .inl (cy 1, 201, .inl (fun x9 => nI ((va_up NS nm S0) x9))) := ((congrFun eg_6 _).trans (va_up_ne _ _ (by omega))).trans h125_5
        have h126_6 : g_6 126 = .inl (cy 1, 201, .inl (fun x9 => nI ((va_up NN nm K0) x9))) := ((congrFun eg_6 _).trans (va_up_ne _ _ (by omega))).trans h126_5
        have hfr_6 : ∀ j : Nat, j ≠ 125 → j ≠ 126 → j ≠ 114 → g_6 j = g j := fun j n0 n1 n2 => ((congrFun eg_6 _).trans (va_up_ne _ _ n2)).trans (hfr_5 j n0 n1)
        exact rMv S hr hlk hP hS ⟨_, _, _, (NR_a hNR (by omega) rfl (hSK (by omega)).1 (hSK (by omega)).2), h114_6, h125_6, h126_6, (fun j n0 n1 n2 => hfr_6 j (by omega) (by omega) (by omega))⟩ dX10_beat_72

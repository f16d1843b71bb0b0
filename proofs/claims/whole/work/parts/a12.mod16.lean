set_option maxHeartbeats 4000000 in
set_option maxRecDepth 100000 in
theorem c_X10_seek (l : Launch) (D : va_G) (cy : Nat → ClassId) (ad : Nat → Nat) (N : Nat) (g : Nat → va_E) (hinj : ∀ i j : Nat, i < N → j < N → ad i = ad j → i = j) (hN : 145 ≤ N) (w : WT) (un : Nat) (la : Int32) (bo : Int32) (tp : Nat) (ft : Int32) (wr0 : Nat) (wa : Nat) (at0 : Nat) (sp : Nat) (tk : Nat) (vl : Int32) (fi : Nat) (nm : Nat) (dp : Nat) (wy : Int32) (st : Int32) (aP : Nat) (aF : Nat) (aH : Nat) (aO : Nat) (ps : Nat) (mn : Nat) (go : Int32) (vi : Nat) (hM : g 114 = mob ad (nI (wn w)) (nI (wf w)) (nI (wh w)) (lN (wo w)) (nI (un)) la bo (nI (tp)) ft (nI (wr0)) (nI (wa)) (nI (at0)) (nI (sp)) (nI (tk)) vl (nI (fi)) (nI (nm)) (nI (dp)) wy st (nI (aP)) (nI (aF)) (nI (aH)) (lN aO) (nI (ps)) (nI (mn)) go (nI (vi))) (P : Nat → Nat) (hP9 : g 115 = .inl (cy 1, 8, .inl (fun x9 => nI (P x9)))) (hw : WOK w) (hPw : ∀ i, i < wn w → P i = wp w i) (MP : Nat → Nat) (hm1 : g 134 = .inl (cy 1, 1500, .inl (fun x9 => nI (MP x9)))) (MO9 : Nat → Int64) (hm2 : g 135 = .inl (cy 2, 1500, .inr (.inl MO9))) (MF : Nat → Int32) (hm3 : g 136 = .inl (cy 1, 1500, .inl MF)) (MB : Nat → Int32) (hm4 : g 137 = .inl (cy 1, 1500, .inl MB)) (SL : Nat → Nat) (hm5 : g 138 = .inl (cy 1, 4096, .inl (fun x9 => nI (SL x9)))) (QP : Nat → Nat) (hq1 : g 130 = .inl (cy 1, 6, .inl (fun x9 => nI (QP x9)))) (QF : Nat → Nat) (hq2 : g 131 = .inl (cy 1, 6, .inl (fun x9 => nI (QF x9)))) (QH : Nat → Nat) (hq3 : g 132 = .inl (cy 1, 6, .inl (fun x9 => nI (QH x9)))) (QO : Nat → Int64) (hq4 : g 133 = .inl (cy 2, 6, .inr (.inl QO))) (Po : Nat → WT) (hps : ps ≤ 6) (hPR : PR ps (wn w) QP QF QH QO Po) (k0 : Nat) (hk0b : k0 < ps) : Met l yX10_seek (WS yX10_seek cX10_seek 2 none) (rmF 4 97) (PP [.ref (ad 114), .int (nI (k0))] D cy ad N g) (QV (fun g1 => ∃ (P2 : Nat → Nat), ∃ (MP2 : Nat → Nat), ∃ (MO2 : Nat → Int64), ∃ (MF2 : Nat → Int32), ∃ (MB2 : Nat → Int32), ∃ (SL2 : Nat → Nat), (∀ i, i < wn w → P2 i = wp w i) ∧ (MREL (srO w (Po k0)) (wn w) (wf w) (wh w) MP2 MO2 MF2 MB2 SL2) ∧ g1 114 = mob ad (nI (wn w)) (nI (wf w)) (nI (wh w)) (lN (wo w)) (nI (un)) la bo (nI (tp)) ft (nI (wr0)) (nI (wa)) (nI (at0)) (nI (sp)) (nI (tk)) vl (nI (fi)) (nI (nm)) (nI (dp)) wy st (nI (pk P (wn w))) (nI (wf w)) (nI (wh w)) (lN (wo w)) (nI (ps)) (nI (qk (srO w (Po k0)))) (gfM (srO w (Po k0))) (nI (vi)) ∧ g1 115 = .inl (cy 1, 8, .inl (fun x9 => nI (P2 x9))) ∧ g1 134 = .inl (cy 1, 1500, .inl (fun x9 => nI (MP2 x9))) ∧ g1 135 = .inl (cy 2, 1500, .inr (.inl MO2)) ∧ g1 136 = .inl (cy 1, 1500, .inl MF2) ∧ g1 137 = .inl (cy 1, 1500, .inl MB2) ∧ g1 138 = .inl (cy 1, 4096, .inl (fun x9 => nI (SL2 x9))) ∧ (∀ j, j ≠ 114 → j ≠ 115 → j ≠ 134 → j ≠ 135 → j ≠ 136 → j ≠ 137 → j ≠ 138 → g1 j = g j)) D ad N) 0 0 (AA ad N) := by
  refine mentry (by decide) (Nat.le_of_ble_eq_true rfl) (fun p e s m below meth c ls S hr hlk hnm hP hK hl => ?_)
  have S : CallFix p m c cX10_seek 2 s _ wsL_law RX10 := S
  have hx := S.1
  have hb := S.2.1
  have hl : lv_has ls 2 [(0, .ref (ad 114)), (1, .int (nI (k0)))] := hl
  have hI : MD (AA ad N) ad N := MD.in hinj
  have hS : va_S (AA ad N) s.heap s.heap [] := va_S.rf
  have hfr : ∀ j : Nat, g j = g j := fun _ => rfl
  have hn4 := hw.1.1
  have hn8 := hw.1.2
  have hpm := perm_P hw hPw
  have hf := lt256 hw.2.2.1 hn8
  have hh := lt256 hw.2.2.2.1 hn8
  have ho := hw.2.2.2.2.1
  have hP8 := P8 hw hPw
  have hpk := pk_24 hn8 hP8
  refine lv_aload_n hx hb dX10_seek_0 rfl (lv_at hl 0 rfl) ?_
  refine kMv (As := []) (rest := []) S hK hP hS (fun _ h => h) (c_X10_putAside l D cy ad N g hinj (by omega) (wn w) (wf w) (wh w) (wo w) un la bo tp ft wr0 wa at0 sp tk vl fi nm dp wy st aP aF aH aO ps mn go vi hM hn4 hn8 P hP9) cv_X10_318 (by omega) hM ⟨_, _, rfl⟩ ⟨rfl, rfl⟩ rfl hl.1 rfl (Nat.le_of_ble_eq_true rfl) ⟨Nat.zero_le _, Nat.zero_le _⟩ dX10_seek_1 (fun g_1 H locs q_1 hP hS => ?_)
  obtain ⟨h114_1, f_1⟩ := q_1
  have h115_1 : g_1 115 = .inl (cy 1, 8, .inl (fun x9 => nI (P x9))) := (f_1 115 (by omega)).trans hP9
  have h134_1 : g_1 134 = .inl (cy 1, 1500, .inl (fun x9 => nI (MP x9))) := (f_1 134 (by omega)).trans hm1
  have h135_1 : g_1 135 = .inl (cy 2, 1500, .inr (.inl MO9)) := (f_1 135 (by omega)).trans hm2
  have h136_1 : g_1 136 = .inl (cy 1, 1500, .inl MF) := (f_1 136 (by omega)).trans hm3
  have h137_1 : g_1 137 = .inl (cy 1, 1500, .inl MB) := (f_1 137 (by omega)).trans hm4
  have h138_1 : g_1 138 = .inl (cy 1, 4096, .inl (fun x9 => nI (SL x9))) := (f_1 138 (by omega)).trans hm5
  have h130_1 : g_1 130 = .inl (cy 1, 6, .inl (fun x9 => nI (QP x9))) := (f_1 130 (by omega)).trans hq1
  have h131_1 : g_1 131 = .inl (cy 1, 6, .inl (fun x9 => nI (QF x9))) := (f_1 131 (by omega)).trans hq2
  have h132_1 : g_1 132 = .inl (cy 1, 6, .inl (fun x9 => nI (QH x9))) := (f_1 132 (by omega)).trans hq3
  have h133_1 : g_1 133 = .inl (cy 2, 6, .inr (.inl QO)) := (f_1 133 (by omega)).trans hq4
  have hfr_1 : ∀ j : Nat, j ≠ 114 → g_1 j = g j := fun j n0 => (f_1 j n0).trans (hfr j )
  refine lv_aload_n hx hb dX10_seek_4 rfl (lv_at hl 0 rfl) ?_
  refine lv_aload_n hx hb dX10_seek_5 rfl (lv_at hl 0 rfl) ?_
  refine lv_iload_n hx hb dX10_seek_6 rfl (lv_at hl 1 rfl) ?_
  refine kMi (As := [.int (nI (k0))]) (rest := [.ref (ad 114)]) S hK hP hS (fun _ h => h) (c_X10_search l D cy ad N g_1 hinj (by omega) w un la bo tp ft wr0 wa at0 sp tk vl fi nm dp wy st (pk P (wn w)) ((wf w)) ((wh w)) ((wo w)) ps mn go vi h114_1 P h115_1 hw hPw MP h134_1 MO9 h135_1 MF h136_1 MB h137_1 SL h138_1 QP h130_1 QF h131_1 QH h132_1 QO h133_1 Po hps hPR k0 hk0b) cv_X10_348 (by omega) h114_1 ⟨_, _, rfl⟩ ⟨rfl, rfl⟩ rfl hl.1 rfl (Nat.le_of_ble_eq_true rfl) ⟨Nat.zero_le _, Nat.zero_le _⟩ dX10_seek_7 (fun r_7 g_2 H locs q_2 hP hS => ?_)
  obtain ⟨P2_2, ov2_2, MP2_2, MO2_2, MF2_2, MB2_2, SL2_2, q_7, hR2_2, h114_2, h115_2, h134_2, h135_2, h136_2, h137_2, h138_2, f_2⟩ := q_2
  have h130_2 : g_2 130 = .inl (cy 1, 6, .inl (fun x9 => nI (QP x9))) := (f_2 130 (by omega) (by omega) (by omega) (by omega) (by omega) (by omega) (by omega)).trans h130_1
  have h131_2 : g_2 131 = .inl (cy 1, 6, .inl (fun x9 => nI (QF x9))) := (f_2 131 (by omega) (by omega) (by omega) (by omega) (by omega) (by omega) (by omega)).trans h131_1
  have h132_2 : g_2 132 = .inl (cy 1, 6, .inl (fun x9 => nI (QH x9))) := (f_2 132 (by omega) (by omega) (by omega) (by omega) (by omega) (by omega) (by omega)).trans h132_1
  have h133_2 : g_2 133 = .inl (cy 2, 6, .inr (.inl QO)) := (f_2 133 (by omega) (by omega) (by omega) (by omega) (by omega) (by omega) (by omega)).trans h133_1
  have hfr_2 : ∀ j : Nat, j ≠ 114 → j ≠ 115 → j ≠ 134 → j ≠ 135 → j ≠ 136 → j ≠ 137 → j ≠ 138 → g_2 j = g j := fun j n0 n1 n2 n3 n4 n5 n6 => (f_2 j n0 n1 n2 n3 n4 n5 n6).trans (hfr_1 j n0)
  have hRs := hR2_2
  refine mp S hK hP hI hS (by omega) h114_2 fd_X10_351 rfl rfl (Nat.le_of_ble_eq_true rfl) dX10_seek_10 (fun g_3 H locs eg_3 hP hS => ?_)
  have h114_3 : g_3 114 = mob ad (nI (wn w)) (nI (wf w)) (nI (wh w)) (lN ov2_2) (nI (un)) la bo (nI (tp)) ft (nI (wr0)) (nI (wa)) (nI (at0)) (nI (sp)) (nI (tk)) vl (nI (fi)) (nI (nm)) (nI (dp)) wy st (nI ((pk P (wn w)))) (nI (((wf w)))) (nI (((wh w)))) (lN (((wo w)))) (nI (ps)) (nI (qk (srF w (Po k0)))) r_7 (nI (vi)) := by rw [eg_3, va_up_self]; exact rfl
  have h115_3 : g_3 115 = .inl (cy 1, 8, .inl (fun x9 => nI (P2_2 x9))) := ((congrFun eg_3 _).trans (va_up_ne _ _ (by omega))).trans h115_2
  have h134_3 : g_3 134 = .inl (cy 1, 1500, .inl (fun x9 => nI (MP2_2 x9))) := ((congrFun eg_3 _).trans (va_up_ne _ _ (by omega))).trans h134_2
  have h135_3 : g_3 135 = .inl (cy 2, 1500, .inr (.inl MO2_2)) := ((congrFun eg_3 _).trans (va_up_ne _ _ (by omega))).trans h135_2
  have h136_3 : g_3 136 = .inl (cy 1, 1500, .inl MF2_2) := ((congrFun eg_3 _).trans (va_up_ne _ _ (by omega))).trans h136_2
  have h137_3 : g_3 137 = .inl (cy 1, 1500, .inl MB2_2) := ((congrFun eg_3 _).trans (va_up_ne _ _ (by omega))).trans h137_2
  have h138_3 : g_3 138 = .inl (cy 1, 4096, .inl (fun x9 => nI (SL2_2 x9))) := ((congrFun eg_3 _).trans (va_up_ne _ _ (by omega))).trans h138_2
  have h130_3 : g_3 130 = .inl (cy 1, 6, .inl (fun x9 => nI (QP x9))) := ((congrFun eg_3 _).trans (va_up_ne _ _ (by omega))).trans h130_2
  have h131_3 : g_3 131 = .inl (cy 1, 6, .inl (fun x9 => nI (QF x9))) := ((congrFun eg_3 _).trans (va_up_ne _ _ (by omega))).trans h131_2
  have h132_3 : g_3 132 = .inl (cy 1, 6, .inl (fun x9 => nI (QH x9))) := ((congrFun eg_3 _).trans (va_up_ne _ _ (by omega))).trans h132_2
  have h133_3 : g_3 133 = .inl (cy 2, 6, .inr (.inl QO)) := ((congrFun eg_3 _).trans (va_up_ne _ _ (by omega))).trans h133_2
  have hfr_3 : ∀ j : Nat, j ≠ 114 → j ≠ 115 → j ≠ 134 → j ≠ 135 → j ≠ 136 → j ≠ 137 → j ≠ 138 → g_3 j = g j := fun j n0 n1 n2 n3 n4 n5 n6 => ((congrFun eg_3 _).trans (va_up_ne _ _ n0)).trans (hfr_2 j n0 n1 n2 n3 n4 n5 n6)
  refine lv_aload_n hx hb dX10_seek_13 rfl (lv_at hl 0 rfl) ?_
  refine kMv (As := []) (rest := []) S hK hP hS (fun _ h => h) (c_X10_bringBack l D cy ad N g_3 hinj (by omega) (wn w) (wf w) (wh w) ov2_2 un la bo tp ft wr0 wa at0 sp tk vl fi nm dp wy st ((pk P (wn w))) (((wf w))) (((wh w))) (((wo w))) ps (qk (srF w (Po k0))) r_7 vi h114_3 hn4 hn8 P2_2 h115_3 hpk) cv_X10_324 (by omega) h114_3 ⟨_, _, rfl⟩ ⟨rfl, rfl⟩ rfl hl.1 rfl (Nat.le_of_ble_eq_true rfl) ⟨Nat.zero_le _, Nat.zero_le _⟩ dX10_seek_14 (fun g_4 H locs q_4 hP hS => ?_)
  obtain ⟨h114_4, h115_4, f_4⟩ := q_4
  have h134_4 : g_4 134 = .inl (cy 1, 1500, .inl (fun x9 => nI (MP2_2 x9))) := (f_4 134 (by omega) (by omega)).trans h134_3
  have h135_4 : g_4 135 = .inl (cy 2, 1500, .inr (.inl MO2_2)) := (f_4 135 (by omega) (by omega)).trans h135_3
  have h136_4 : g_4 136 = .inl (cy 1, 1500, .inl MF2_2) := (f_4 136 (by omega) (by omega)).trans h136_3
  have h137_4 : g_4 137 = .inl (cy 1, 1500, .inl MB2_2) := (f_4 137 (by omega) (by omega)).trans h137_3
  have h138_4 : g_4 138 = .inl (cy 1, 4096, .inl (fun x9 => nI (SL2_2 x9))) := (f_4 138 (by omega) (by omega)).trans h138_3
  have h130_4 : g_4 130 = .inl (cy 1, 6, .inl (fun x9 => nI (QP x9))) := (f_4 130 (by omega) (by omega)).trans h130_3
  have h131_4 : g_4 131 = .inl (cy 1, 6, .inl (fun x9 => nI (QF x9))) := (f_4 131 (by omega) (by omega)).trans h131_3
  have h132_4 : g_4 132 = .inl (cy 1, 6, .inl (fun x9 => nI (QH x9))) := (f_4 132 (by omega) (by omega)).trans h132_3
  have h133_4 : g_4 133 = .inl (cy 2, 6, .inr (.inl QO)) := (f_4 133 (by omega) (by omega)).trans h133_3
  have hfr_4 : ∀ j : Nat, j ≠ 114 → j ≠ 115 → j ≠ 134 → j ≠ 135 → j ≠ 136 → j ≠ 137 → j ≠ 138 → g_4 j = g j := fun j n0 n1 n2 n3 n4 n5 n6 => (f_4 j n0 n1).trans (hfr_3 j n0 n1 n2 n3 n4 n5 n6)
  exact rMv S hr hlk hP hS ⟨_, _, _, _, _, _, (by intro i hi; rw [upk_pk hP8 i hi]; exact hPw i hi), (by rw [srO_e]; exact hRs), (by rw [srO_e, ← q_7]; exact h114_4), h115_4, h134_4, h135_4, h136_4, h137_4, h138_4, hfr_4⟩ dX10_seek_17
set_option maxHeartbeats 4000000 in
set_option maxRecDepth 100000 in
theorem c_X10_steps (l : Launch) (D : va_G) (cy : Nat → ClassId) (ad : Nat → Nat) (N : Nat) (g : Nat → va_E) (Q : QS) (g9 : Nat) (hg9 : g9 < qk Q) (hN : 145 ≤ N) (n : Nat) (fa : Nat) (he : Nat) (ov : Nat) (un : Nat) (la : Int32) (bo : Int32) (tp : Nat) (ft : Int32) (wr0 : Nat) (wa : Nat) (at0 : Nat) (sp : Nat) (tk : Nat) (vl : Int32) (fi : Nat) (nm : Nat) (dp : Nat) (wy : Int32) (st : Int32) (aP : Nat) (aF : Nat) (aH : Nat) (aO : Nat) (ps : Nat) (vi : Nat) (hM : g 114 = mob ad (nI (n)) (nI (fa)) (nI (he)) (lN ov) (nI (un)) la bo (nI (tp)) ft (nI (wr0)) (nI (wa)) (nI (at0)) (nI (sp)) (nI (tk)) vl (nI (fi)) (nI (nm)) (nI (dp)) wy st (nI (aP)) (nI (aF)) (nI (aH)) (lN aO) (nI (ps)) (nI (qk Q)) (nI (g9)) (nI (vi))) (MP : Nat → Nat) (hm1 : g 134 = .inl (cy 1, 1500, .inl (fun x9 => nI (MP x9)))) (MO9 : Nat → Int64) (hm2 : g 135 = .inl (cy 2, 1500, .inr (.inl MO9))) (MF : Nat → Int32) (hm3 : g 136 = .inl (cy 1, 1500, .inl MF)) (MB : Nat → Int32) (hm4 : g 137 = .inl (cy 1, 1500, .inl MB)) (SL : Nat → Nat) (hm5 : g 138 = .inl (cy 1, 4096, .inl (fun x9 => nI (SL x9)))) (n4 : Nat) (f4 : Nat) (h4 : Nat) (hR : MREL Q n4 f4 h4 MP MO9 MF MB SL) : Met l yX10_steps (WS yX10_steps cX10_steps 3 (some .int)) (rmF 0 0) (PP [.ref (ad 114)] D cy ad N g) (vp_Si (fun r => r = nI (wlen (qp Q) g9))) 0 0 (fun _ => False) := by
  refine mentry (by decide) (Nat.le_of_ble_eq_true rfl) (fun p e s m below meth c ls S hr hlk hnm hP hK hl => ?_)
  have S : CallFix p m c cX10_steps 3 s _ wsL_law RX10 := S
  have hx := S.1
  have hb := S.2.1
  have hl : lv_has ls 3 [(0, .ref (ad 114))] := hl
  have hq15 := hR.1
  have hqp := mrel_p hR
  refine lv_iconst (v := nI (0)) hx hb dX10_steps_0 (by decide) ?_
  refine lv_istore_n (lv' := [(1, .int (nI (0))), (0, .ref (ad 114))]) hx hb dX10_steps_1 rfl hl (by decide) rfl (fun ls hl => ?_)
  refine lv_aload_n hx hb dX10_steps_2 rfl (lv_at hl 1 rfl) ?_
  refine mg S hK hP (by omega) hM fd_X10_351 rfl dX10_steps_3 ?_
  refine lv_istore_n (lv' := [(2, .int (nI (g9))), (1, .int (nI (0))), (0, .ref (ad 114))]) hx hb dX10_steps_6 rfl hl (by decide) rfl (fun ls hl => ?_)
  have L7 : ∀ (fu : Nat) (c9 m9 : Nat), (m9 ≤ g9) → (c9 + wlen (qp Q) m9 = wlen (qp Q) g9) → m9 < fu → ∀ (ls : Array Slot), lv_has ls 3 [(2, .int (nI (m9))), (1, .int (nI (c9))), (0, .ref (ad 114))] → W p l e (rmF 0 0) s m [.ref (ad 114)].toArray below meth c s.heap [] 0 0 (MQ below (vp_Si (fun r => r = nI (wlen (qp Q) g9))) [.ref (ad 114)].toArray s 0 0 (fun _ => False)) (F0 m 7 ls []) := by
    intro fu
    induction fu with
    | zero => intro c9 m9 hm9 hc9 hms ls hl; exact absurd hms (Nat.not_lt_zero _)
    | succ fu ih7 =>
      intro c9 m9 hm9 hc9 hms ls hl
      refine lv_aload_n hx hb dX10_steps_7 rfl (lv_at hl 2 rfl) ?_
      refine mg S hK hP (by omega) hM fd_X10_84 rfl dX10_steps_8 ?_
      refine lv_iload_n hx hb dX10_steps_11 rfl (lv_at hl 0 rfl) ?_
      refine mial S hK hP (by omega) hm3 (vp_in_nI (by omega) (by omega)) dX10_steps_12 ?_
      refine tpi (congrArg MF (nI_clamp (by omega))) ?_
      refine tpi ((hR.2.2.1 m9 (by omega)).2.2.1) ?_
      have hpm := hqp m9 (by omega)
      refine lv_bipush (v := (-4)) hx hb dX10_steps_13 (by decide) ?_
      refine lv_icmp_eq (tgt := 31) hx hb dX10_steps_15 (by decide) (fun c_15 => ?_) (fun c_15 => ?_)
      · skip
        have hm0 : m9 = 0 := by rcases hpm with q | q; exact q; exact (mf4 (x := qp Q m9) (by omega)).mp c_15
        refine lv_iload_n hx hb dX10_steps_31 rfl (lv_at hl 1 rfl) ?_
        exact rSi S hr hlk (by rw [hm0, wlen_0] at hc9; rw [← hc9]; rfl) dX10_steps_32
      · skip
        have hm0 : ¬ m9 = 0 := fun q => c_15 (by rw [if_pos q])
        have hpl : qp Q m9 < m9 := by rcases hpm with q | q; exact absurd q hm0; exact q
        have hws := wlen_s hqp (m := m9) (by omega) (by omega)
        refine lv_iinc (v := nI (c9 + 1)) (lv' := [(1, .int (nI (c9 + 1))), (2, .int (nI (m9))), (0, .ref (ad 114))]) hx hb dX10_steps_18 hl (k := 1) rfl (by exact nI_add c9 1) (by decide) rfl (fun ls hl => ?_)
        refine lv_aload_n hx hb dX10_steps_21 rfl (lv_at hl 2 rfl) ?_
        refine mg S hK hP (by omega) hM fd_X10_84 rfl dX10_steps_22 ?_
        refine lv_iload_n hx hb dX10_steps_25 rfl (lv_at hl 1 rfl) ?_
        refine mial S hK hP (by omega) hm3 (vp_in_nI (by omega) (by omega)) dX10_steps_26 ?_
        refine tpi (congrArg MF (nI_clamp (by omega))) ?_
        refine tpi (((hR.2.2.1 m9 (by omega)).2.2.1.trans (if_neg hm0))) ?_
        refine lv_istore_n (lv' := [(2, .int (nI (qp Q m9))), (1, .int (nI (c9 + 1))), (0, .ref (ad 114))]) hx hb dX10_steps_27 rfl hl (by decide) rfl (fun ls hl => ?_)
        refine lv_goto (tgt := 7) hx hb dX10_steps_28 (by decide) ?_
        exact ih7 (c9 + 1) (qp Q m9) (by omega) (by omega) (by omega) _ (lv_sub hl [0, 1, 2] rfl)
  exact L7 (g9 + 1) 0 g9 (by omega) (by omega) (Nat.lt_succ_self _) _ (lv_sub hl [0, 1, 2] rfl)
set_option maxHeartbeats 4000000 in
set_option maxRecDepth 100000 in
theorem c_X10_way (l : Launch) (D : va_G) (cy : Nat → ClassId) (ad : Nat → Nat) (N : Nat) (g : Nat → va_E) (hinj : ∀ i j : Nat, i < N → j < N → ad i = ad j → i = j) (hN : 145 ≤ N) (w : WT) (un : Nat) (la : Int32) (bo : Int32) (tp : Nat) (ft : Int32) (wr0 : Nat) (wa : Nat) (at0 : Nat) (sp : Nat) (tk : Nat) (vl : Int32) (fi : Nat) (nm : Nat) (dp : Nat) (wy : Int32) (st : Int32) (aP : Nat) (aF : Nat) (aH : Nat) (aO : Nat) (ps : Nat) (mn : Nat) (go : Int32) (vi : Nat) (hM : g 114 = mob ad (nI (wn w)) (nI (wf w)) (nI (wh w)) (lN (wo w)) (nI (un)) la bo (nI (tp)) ft (nI (wr0)) (nI (wa)) (nI (at0)) (nI (sp)) (nI (tk)) vl (nI (fi)) (nI (nm)) (nI (dp)) wy st (nI (aP)) (nI (aF)) (nI (aH)) (lN aO) (nI (ps)) (nI (mn)) go (nI (vi))) (P : Nat → Nat) (hP9 : g 115 = .inl (cy 1, 8, .inl (fun x9 => nI (P x9)))) (hw : WOK w) (hPw : ∀ i, i < wn w → P i = wp w i) (MP : Nat → Nat) (hm1 : g 134 = .inl (cy 1, 1500, .inl (fun x9 => nI (MP x9)))) (MO9 : Nat → Int64) (hm2 : g 135 = .inl (cy 2, 1500, .inr (.inl MO9))) (MF : Nat → Int32) (hm3 : g 136 = .inl (cy 1, 1500, .inl MF)) (MB : Nat → Int32) (hm4 : g 137 = .inl (cy 1, 1500, .inl MB)) (SL : Nat → Nat) (hm5 : g 138 = .inl (cy 1, 4096, .inl (fun x9 => nI (SL x9)))) (QP : Nat → Nat) (hq1 : g 130 = .inl (cy 1, 6, .inl (fun x9 => nI (QP x9)))) (QF : Nat → Nat) (hq2 : g 131 = .inl (cy 1, 6, .inl (fun x9 => nI (QF x9)))) (QH : Nat → Nat) (hq3 : g 132 = .inl (cy 1, 6, .inl (fun x9 => nI (QH x9)))) (QO : Nat → Int64) (hq4 : g 133 = .inl (cy 2, 6, .inr (.inl QO))) (Po : Nat → WT) (hps : ps ≤ 6) (hPR : PR ps (wn w) QP QF QH QO Po) (x0 : Int32) : Met l yX10_way (WS yX10_way cX10_way 2 (some .int)) (rmF 5 118) (PP [.ref (ad 114), .int x0] D cy ad N g) (QI (fun r g1 => ∃ (P2 : Nat → Nat), ∃ (aP2 : Nat), ∃ (aF2 : Nat), ∃ (aH2 : Nat), ∃ (aO2 : Nat), ∃ (mn2 : Nat), ∃ (go2 : Int32), ∃ (MP2 : Nat → Nat), ∃ (MO2 : Nat → Int64), ∃ (MF2 : Nat → Int32), ∃ (MB2 : Nat → Int32), ∃ (SL2 : Nat → Nat), (r = if isI x0 ps then ansF (srO w (Po x0.toNatClampNeg)) else -1) ∧ (∀ i, i < wn w → P2 i = wp w i) ∧ g1 114 = mob ad (nI (wn w)) (nI (wf w)) (nI (wh w)) (lN (wo w)) (nI (un)) la bo (nI (tp)) ft (nI (wr0)) (nI (wa)) (nI (at0)) (nI (sp)) (nI (tk)) vl (nI (fi)) (nI (nm)) (nI (dp)) wy st (nI (aP2)) (nI (aF2)) (nI (aH2)) (lN aO2) (nI (ps)) (nI (mn2)) go2 (nI (vi)) ∧ g1 115 = .inl (cy 1, 8, .inl (fun x9 => nI (P2 x9))) ∧ g1 134 = .inl (cy 1, 1500, .inl (fun x9 => nI (MP2 x9))) ∧ g1 135 = .inl (cy 2, 1500, .inr (.inl MO2)) ∧ g1 136 = .inl (cy 1, 1500, .inl MF2) ∧ g1 137 = .inl (cy 1, 1500, .inl MB2) ∧ g1 138 = .inl (cy 1, 4096, .inl (fun x9 => nI (SL2 x9))) ∧ (∀ j, j ≠ 114 → j ≠ 115 → j ≠ 134 → j ≠ 135 → j ≠ 136 → j ≠ 137 → j ≠ 138 → g1 j = g j)) D ad N) 0 0 (AA ad N) := by
  refine mentry (by decide) (Nat.le_of_ble_eq_true rfl) (fun p e s m below meth c ls S hr hlk hnm hP hK hl => ?_)
  have S : CallFix p m c cX10_way 2 s _ wsL_law RX10 := S
  have hx := S.1
  have hb := S.2.1
  have hl : lv_has ls 2 [(0, .ref (ad 114)), (1, .int x0)] := hl
  have hI : MD (AA ad N) ad N := MD.in hinj
  have hS : va_S (AA ad N) s.heap s.heap [] := va_S.rf
  have hfr : ∀ j : Nat, g j = g j := fun _ => rfl
  refine lv_aload_n hx hb dX10_way_0 rfl (lv_at hl 0 rfl) ?_
  refine lv_iload_n hx hb dX10_way_1 rfl (lv_at hl 1 rfl) ?_
  refine kVi (As := [.int x0]) (rest := []) S hK hP (c_X10_isPose l D cy ad N g (by omega) (wn w) (wf w) (wh w) (wo w) un la bo tp ft wr0 wa at0 sp tk vl fi nm dp wy st aP aF aH aO ps mn go vi hM hps x0) cv_X10_327 (by omega) hM ⟨_, _, rfl⟩ ⟨rfl, rfl⟩ rfl hl.1 rfl (Nat.le_of_ble_eq_true rfl) ⟨Nat.zero_le _, Nat.zero_le _⟩ dX10_way_2 (fun r_2 q_2 => ?_)
  subst q_2
  refine lv_if_ne (tgt := 10) hx hb dX10_way_5 (by decide) (fun c_5 => ?_) (fun c_5 => ?_)
  · skip
    have c_5 := bz_ne.mp c_5
    obtain ⟨k0, hk0b, rfl⟩ := isI_nat (by omega) c_5
    have hJ := c_5
    have hk031 : k0 < 2 ^ 31 := by omega
    have hKq := hPR k0 hk0b
    refine lv_aload_n hx hb dX10_way_10 rfl (lv_at hl 0 rfl) ?_
    refine lv_iload_n hx hb dX10_way_11 rfl (lv_at hl 1 rfl) ?_
    refine kMv (As := [.int (nI (k0))]) (rest := []) S hK hP hS (fun _ h => h) (c_X10_seek l D cy ad N g hinj (by omega) w un la bo tp ft wr0 wa at0 sp tk vl fi nm dp wy st aP aF aH aO ps mn go vi hM P hP9 hw hPw MP hm1 MO9 hm2 MF hm3 MB hm4 SL hm5 QP hq1 QF hq2 QH hq3 QO hq4 Po hps hPR k0 hk0b) cv_X10_354 (by omega) hM ⟨_, _, rfl⟩ ⟨rfl, rfl⟩ rfl hl.1 rfl (Nat.le_of_ble_eq_true rfl) ⟨Nat.zero_le _, Nat.zero_le _⟩ dX10_way_12 (fun g_1 H locs q_1 hP hS => ?_)
    obtain ⟨P2_1, MP2_1, MO2_1, MF2_1, MB2_1, SL2_1, hP2_1, hR2_1, h114_1, h115_1, h134_1, h135_1, h136_1, h137_1, h138_1, f_1⟩ := q_1
    have h130_1 : g_1 130 = .inl (cy 1, 6, .inl (fun x9 => nI (QP x9))) := (f_1 130 (by omega) (by omega) (by omega) (by omega) (by omega) (by omega) (by omega)).trans hq1
    have h131_1 : g_1 131 = .inl (cy 1, 6, .inl (fun x9 => nI (QF x9))) := (f_1 131 (by omega) (by omega) (by omega) (by omega) (by omega) (by omega) (by omega)).trans hq2
    have h132_1 : g_1 132 = .inl (cy 1, 6, .inl (fun x9 => nI (QH x9))) := (f_1 132 (by omega) (by omega) (by omega) (by omega) (by omega) (by omega) (by omega)).trans hq3
    have h133_1 : g_1 133 = .inl (cy 2, 6, .inr (.inl QO)) := (f_1 133 (by omega) (by omega) (by omega) (by omega) (by omega) (by omega) (by omega)).trans hq4
    have hfr_1 : ∀ j : Nat, j ≠ 114 → j ≠ 115 → j ≠ 134 → j ≠ 135 → j ≠ 136 → j ≠ 137 → j ≠ 138 → g_1 j = g j := fun j n0 n1 n2 n3 n4 n5 n6 => (f_1 j n0 n1 n2 n3 n4 n5 n6).trans (hfr j )
    have hRs := hR2_1
    have hPs := hP2_1
    have hg15 : qg (srO w (Po k0)) ≤ 1500 := Nat.le_trans hRs.2.2.2 hRs.1
    have hwl := fun (h0 : qg (srO w (Po k0)) ≠ 0) => wlen_le (mrel_p hRs) (m := qg (srO w (Po k0)) - 1) (by have := hRs.2.2.2; omega)
    refine lv_aload_n hx hb dX10_way_15 rfl (lv_at hl 0 rfl) ?_
    refine mg S hK hP (by omega) h114_1 fd_X10_351 rfl dX10_way_16 ?_
    refine lv_if_ge (tgt := 29) hx hb dX10_way_19 (by decide) (fun c_19 => ?_) (fun c_19 => ?_)
    · skip
      refine lv_aload_n hx hb dX10_way_29 rfl (lv_at hl 0 rfl) ?_
      refine kVi (As := []) (rest := []) S hK hP (c_X10_steps l D cy ad N g_1 ((srO w (Po k0))) (qg (srO w (Po k0)) - 1) (by have := hRs.2.2.2; have := (gfM_n c_19 (by omega)).1; omega) (by omega) (wn w) (wf w) (wh w) (wo w) un la bo tp ft wr0 wa at0 sp tk vl fi nm dp wy st (pk P (wn w)) (wf w) (wh w) (wo w) ps vi (by rw [← (gfM_n c_19 (by omega)).2.1]; exact h114_1) MP2_1 h134_1 MO2_1 h135_1 MF2_1 h136_1 MB2_1 h137_1 SL2_1 h138_1 (wn w) (wf w) (wh w) hRs) cv_X10_357 (by omega) h114_1 ⟨_, _, rfl⟩ ⟨rfl, rfl⟩ rfl hl.1 rfl (Nat.le_of_ble_eq_true rfl) ⟨Nat.zero_le _, Nat.zero_le _⟩ dX10_way_30 (fun r_30 q_30 => ?_)
      subst q_30
      exact rMi S hr hlk hP hS ⟨_, pk P (wn w), wf w, wh w, wo w, qk (srO w (Po k0)), gfM (srO w (Po k0)), _, _, _, _, _, (by rw [if_pos hJ, nI_clamp hk031, (gfM_n c_19 (by omega)).2.2]), hPs, h114_1, h115_1, h134_1, h135_1, h136_1, h137_1, h138_1, hfr_1⟩ dX10_way_33
    · skip
      refine lv_aload_n hx hb dX10_way_22 rfl (lv_at hl 0 rfl) ?_
      refine mg S hK hP (by omega) h114_1 fd_X10_351 rfl dX10_way_23 ?_
      refine lv_goto (tgt := 33) hx hb dX10_way_26 (by decide) ?_
      exact rMi S hr hlk hP hS ⟨_, pk P (wn w), wf w, wh w, wo w, qk (srO w (Po k0)), gfM (srO w (Po k0)), _, _, _, _, _, (by rw [if_pos hJ, nI_clamp hk031, (gfM_0 c_19 (by omega)).1]), hPs, h114_1, h115_1, h134_1, h135_1, h136_1, h137_1, h138_1, hfr_1⟩ dX10_way_33
  · skip
    have c_5 := bz_eq.mp c_5
    have hJ : ¬ isI x0 ps := c_5
    refine lv_iconst (v := (-1)) hx hb dX10_way_8 (by decide) ?_
    exact rMi S hr hlk hP hS ⟨_, aP, aF, aH, aO, mn, go, _, _, _, _, _, (if_neg hJ).symm, hPw, hM, hP9, hm1, hm2, hm3, hm4, hm5, (fun j n0 n1 n2 n3 n4 n5 n6 => hfr j )⟩ dX10_way_9
set_option maxHeartbeats 4000000 in
set_option maxRecDepth 100000 in
theorem c_X10_met (l : Launch) (D : va_G) (cy : Nat → ClassId) (ad : Nat → Nat) (N : Nat) (g : Nat → va_E) (hinj : ∀ i j : Nat, i < N → j < N → ad i = ad j → i = j) (hN : 145 ≤ N) (w : WT) (un : Nat) (la : Int32) (bo : Int32) (tp : Nat) (ft : Int32) (wr0 : Nat) (wa : Nat) (at0 : Nat) (sp : Nat) (tk : Nat) (vl : Int32) (fi : Nat) (nm : Nat) (dp : Nat) (wy : Int32) (st : Int32) (aP : Nat) (aF : Nat) (aH : Nat) (aO : Nat) (ps : Nat) (mn : Nat) (go : Int32) (vi : Nat) (hM : g 114 = mob ad (nI (wn w)) (nI (wf w)) (nI (wh w)) (lN (wo w)) (nI (un)) la bo (nI (tp)) ft (nI (wr0)) (nI (wa)) (nI (at0)) (nI (sp)) (nI (tk)) vl (nI (fi)) (nI (nm)) (nI (dp)) wy st (nI (aP)) (nI (aF)) (nI (aH)) (lN aO) (nI (ps)) (nI (mn)) go (nI (vi))) (P : Nat → Nat) (hP9 : g 115 = .inl (cy 1, 8, .inl (fun x9 => nI (P x9)))) (hw : WOK w) (hPw : ∀ i, i < wn w → P i = wp w i) (MP : Nat → Nat) (hm1 : g 134 = .inl (cy 1, 1500, .inl (fun x9 => nI (MP x9)))) (MO9 : Nat → Int64) (hm2 : g 135 = .inl (cy 2, 1500, .inr (.inl MO9))) (MF : Nat → Int32) (hm3 : g 136 = .inl (cy 1, 1500, .inl MF)) (MB : Nat → Int32) (hm4 : g 137 = .inl (cy 1, 1500, .inl MB)) (SL : Nat → Nat) (hm5 : g 138 = .inl (cy 1, 4096, .inl (fun x9 => nI (SL x9)))) (QP : Nat → Nat) (hq1 : g 130 = .inl (cy 1, 6, .inl (fun x9 => nI (QP x9)))) (QF : Nat → Nat) (hq2 : g 131 = .inl (cy 1, 6, .inl (fun x9 => nI (QF x9)))) (QH : Nat → Nat) (hq3 : g 132 = .inl (cy 1, 6, .inl (fun x9 => nI (QH x9)))) (QO : Nat → Int64) (hq4 : g 133 = .inl (cy 2, 6, .inr (.inl QO))) (Po : Nat → WT) (hps : ps ≤ 6) (hPR : PR ps (wn w) QP QF QH QO Po) (x0 : Int32) : Met l yX10_met (WS yX10_met cX10_met 2 (some .int)) (rmF 5 118) (PP [.ref (ad 114), .int x0] D cy ad N g) (QI (fun r g1 => ∃ (P2 : Nat → Nat), ∃ (aP2 : Nat), ∃ (aF2 : Nat), ∃ (aH2 : Nat), ∃ (aO2 : Nat), ∃ (mn2 : Nat), ∃ (go2 : Int32), ∃ (MP2 : Nat → Nat), ∃ (MO2 : Nat → Int64), ∃ (MF2 : Nat → Int32), ∃ (MB2 : Nat → Int32), ∃ (SL2 : Nat → Nat), (r = if isI x0 ps then nI (qk (srO w (Po x0.toNatClampNeg))) else -1) ∧ (∀ i, i < wn w → P2 i = wp w i) ∧ g1 114 = mob ad (nI (wn w)) (nI (wf w)) (nI (wh w)) (lN (wo w)) (nI (un)) la bo (nI (tp)) ft (nI (wr0)) (nI (wa)) (nI (at0)) (nI (sp)) (nI (tk)) vl (nI (fi)) (nI (nm)) (nI (dp)) wy st (nI (aP2)) (nI (aF2)) (nI (aH2)) (lN aO2) (nI (ps)) (nI (mn2)) go2 (nI (vi)) ∧ g1 115 = .inl (cy 1, 8, .inl (fun x9 => nI (P2 x9))) ∧ g1 134 = .inl (cy 1, 1500, .inl (fun x9 => nI (MP2 x9))) ∧ g1 135 = .inl (cy 2, 1500, .inr (.inl MO2)) ∧ g1 136 = .inl (cy 1, 1500, .inl MF2) ∧ g1 137 = .inl (cy 1, 1500, .inl MB2) ∧ g1 138 = .inl (cy 1, 4096, .inl (fun x9 => nI (SL2 x9))) ∧ (∀ j, j ≠ 114 → j ≠ 115 → j ≠ 134 → j ≠ 135 → j ≠ 136 → j ≠ 137 → j ≠ 138 → g1 j = g j)) D ad N) 0 0 (AA ad N) := by
  refine mentry (by decide) (Nat.le_of_ble_eq_true rfl) (fun p e s m below meth c ls S hr hlk hnm hP hK hl => ?_)
  have S : CallFix p m c cX10_met 2 s _ wsL_law RX10 := S
  have hx := S.1
  have hb := S.2.1
  have hl : lv_has ls 2 [(0, .ref (ad 114)), (1, .int x0)] := hl
  have hI : MD (AA ad N) ad N := MD.in hinj
  have hS : va_S (AA ad N) s.heap s.heap [] := va_S.rf
  have hfr : ∀ j : Nat, g j = g j := fun _ => rfl
  refine lv_aload_n hx hb dX10_met_0 rfl (lv_at hl 0 rfl) ?_
  refine lv_iload_n hx hb dX10_met_1 rfl (lv_at hl 1 rfl) ?_
  refine kVi (As := [.int x0]) (rest := []) S hK hP (c_X10_isPose l D cy ad N g (by omega) (wn w) (wf w) (wh w) (wo w) un la bo tp ft wr0 wa at0 sp tk vl fi nm dp wy st aP aF aH aO ps mn go vi hM hps x0) cv_X10_327 (by omega) hM ⟨_, _, rfl⟩ ⟨rfl, rfl⟩ rfl hl.1 rfl (Nat.le_of_ble_eq_true rfl) ⟨Nat.zero_le _, Nat.zero_le _⟩ dX10_met_2 (fun r_2 q_2 => ?_)
  subst q_2
  refine lv_if_ne (tgt := 10) hx hb dX10_met_5 (by decide) (fun c_5 => ?_) (fun c_5 => ?_)
  · skip
    have c_5 := bz_ne.mp c_5
    obtain ⟨k0, hk0b, rfl⟩ := isI_nat (by omega) c_5
    have hJ := c_5
    have hk031 : k0 < 2 ^ 31 := by omega
    have hKq := hPR k0 hk0b
    refine lv_aload_n hx hb dX10_met_10 rfl (lv_at hl 0 rfl) ?_
    refine lv_iload_n hx hb dX10_met_11 rfl (lv_at hl 1 rfl) ?_
    refine kMv (As := [.int (nI (k0))]) (rest := []) S hK hP hS (fun _ h => h) (c_X10_seek l D cy ad N g hinj (by omega) w un la bo tp ft wr0 wa at0 sp tk vl fi nm dp wy st aP aF aH aO ps mn go vi hM P hP9 hw hPw MP hm1 MO9 hm2 MF hm3 MB hm4 SL hm5 QP hq1 QF hq2 QH hq3 QO hq4 Po hps hPR k0 hk0b) cv_X10_354 (by omega) hM ⟨_, _, rfl⟩ ⟨rfl, rfl⟩ rfl hl.1 rfl (Nat.le_of_ble_eq_true rfl) ⟨Nat.zero_le _, Nat.zero_le _⟩ dX10_met_12 (fun g_1 H locs q_1 hP hS => ?_)
    obtain ⟨P2_1, MP2_1, MO2_1, MF2_1, MB2_1, SL2_1, hP2_1, hR2_1, h114_1, h115_1, h134_1, h135_1, h136_1, h137_1, h138_1, f_1⟩ := q_1
    have h130_1 : g_1 130 = .inl (cy 1, 6, .inl (fun x9 => nI (QP x9))) := (f_1 130 (by omega) (by omega) (by omega) (by omega) (by omega) (by omega) (by omega)).trans hq1
    have h131_1 : g_1 131 = .inl (cy 1, 6, .inl (fun x9 => nI (QF x9))) := (f_1 131 (by omega) (by omega) (by omega) (by omega) (by omega) (by omega) (by omega)).trans hq2
    have h132_1 : g_1 132 = .inl (cy 1, 6, .inl (fun x9 => nI (QH x9))) := (f_1 132 (by omega) (by omega) (by omega) (by omega) (by omega) (by omega) (by omega)).trans hq3
    have h133_1 : g_1 133 = .inl (cy 2, 6, .inr (.inl QO)) := (f_1 133 (by omega) (by omega) (by omega) (by omega) (by omega) (by omega) (by omega)).trans hq4
    have hfr_1 : ∀ j : Nat, j ≠ 114 → j ≠ 115 → j ≠ 134 → j ≠ 135 → j ≠ 136 → j ≠ 137 → j ≠ 138 → g_1 j = g j := fun j n0 n1 n2 n3 n4 n5 n6 => (f_1 j n0 n1 n2 n3 n4 n5 n6).trans (hfr j )
    have hRs := hR2_1
    have hPs := hP2_1
    have hg15 : qg (srO w (Po k0)) ≤ 1500 := Nat.le_trans hRs.2.2.2 hRs.1
    have hwl := fun (h0 : qg (srO w (Po k0)) ≠ 0) => wlen_le (mrel_p hRs) (m := qg (srO w (Po k0)) - 1) (by have := hRs.2.2.2; omega)
    refine lv_aload_n hx hb dX10_met_15 rfl (lv_at hl 0 rfl) ?_
    refine mg S hK hP (by omega) h114_1 fd_X10_342 rfl dX10_met_16 ?_
    exact rMi S hr hlk hP hS ⟨_, pk P (wn w), wf w, wh w, wo w, qk (srO w (Po k0)), gfM (srO w (Po k0)), _, _, _, _, _, (by rw [if_pos hJ, nI_clamp hk031]), hPs, h114_1, h115_1, h134_1, h135_1, h136_1, h137_1, h138_1, hfr_1⟩ dX10_met_19
  · skip
    have c_5 := bz_eq.mp c_5
    have hJ : ¬ isI x0 ps := c_5
    refine lv_iconst (v := (-1)) hx hb dX10_met_8 (by decide) ?_
    exact rMi S hr hlk hP hS ⟨_, aP, aF, aH, aO, mn, go, _, _, _, _, _, (if_neg hJ).symm, hPw, hM, hP9, hm1, hm2, hm3, hm4, hm5, (fun j n0 n1 n2 n3 n4 n5 n6 => hfr j )⟩ dX10_met_9
set_option maxHeartbeats 4000000 in
set_option maxRecDepth 100000 in
theorem c_X10_wayAt (l : Launch) (D : va_G) (cy : Nat → ClassId) (ad : Nat → Nat) (N : Nat) (g : Nat → va_E) (hinj : ∀ i j : Nat, i < N → j < N → ad i = ad j → i = j) (hN : 145 ≤ N) (w : WT) (un : Nat) (la : Int32) (bo : Int32) (tp : Nat) (ft : Int32) (wr0 : Nat) (wa : Nat) (at0 : Nat) (sp : Nat) (tk : Nat) (vl : Int32) (fi : Nat) (nm : Nat) (dp : Nat) (wy : Int32) (st : Int32) (aP : Nat) (aF : Nat) (aH : Nat) (aO : Nat) (ps : Nat) (mn : Nat) (go : Int32) (vi : Nat) (hM : g 114 = mob ad (nI (wn w)) (nI (wf w)) (nI (wh w)) (lN (wo w)) (nI (un)) la bo (nI (tp)) ft (nI (wr0)) (nI (wa)) (nI (at0)) (nI (sp)) (nI (tk)) vl (nI (fi)) (nI (nm)) (nI (dp)) wy st (nI (aP)) (nI (aF)) (nI (aH)) (lN aO) (nI (ps)) (nI (mn)) go (nI (vi))) (P : Nat → Nat) (hP9 : g 115 = .inl (cy 1, 8, .inl (fun x9 => nI (P x9)))) (hw : WOK w) (hPw : ∀ i, i < wn w → P i = wp w i) (MP : Nat → Nat) (hm1 : g 134 = .inl (cy 1, 1500, .inl (fun x9 => nI (MP x9)))) (MO9 : Nat → Int64) (hm2 : g 135 = .inl (cy 2, 1500, .inr (.inl MO9))) (MF : Nat → Int32) (hm3 : g 136 = .inl (cy 1, 1500, .inl MF)) (MB : Nat → Int32) (hm4 : g 137 = .inl (cy 1, 1500, .inl MB)) (SL : Nat → Nat) (hm5 : g 138 = .inl (cy 1, 4096, .inl (fun x9 => nI (SL x9)))) (QP : Nat → Nat) (hq1 : g 130 = .inl (cy 1, 6, .inl (fun x9 => nI (QP x9)))) (QF : Nat → Nat) (hq2 : g 131 = .inl (cy 1, 6, .inl (fun x9 => nI (QF x9)))) (QH : Nat → Nat) (hq3 : g 132 = .inl (cy 1, 6, .inl (fun x9 => nI (QH x9)))) (QO : Nat → Int64) (hq4 : g 133 = .inl (cy 2, 6, .inr (.inl QO))) (Po : Nat → WT) (hps : ps ≤ 6) (hPR : PR ps (wn w) QP QF QH QO Po) (x0 : Int32) (z0 : Int32) : Met l yX10_wayAt (WS yX10_wayAt cX10_wayAt 5 (some .int)) (rmF 5 118) (PP [.ref (ad 114), .int x0, .int z0] D cy ad N g) (QI (fun r g1 => ∃ (P2 : Nat → Nat), ∃ (aP2 : Nat), ∃ (aF2 : Nat), ∃ (aH2 : Nat), ∃ (aO2 : Nat), ∃ (mn2 : Nat), ∃ (go2 : Int32), ∃ (MP2 : Nat → Nat), ∃ (MO2 : Nat → Int64), ∃ (MF2 : Nat → Int32), ∃ (MB2 : Nat → Int32), ∃ (SL2 : Nat → Nat), (r = if isI x0 ps ∧ ¬ z0 < 0 then wyA (srO w (Po x0.toNatClampNeg)) z0 else -1) ∧ (∀ i, i < wn w → P2 i = wp w i) ∧ g1 114 = mob ad (nI (wn w)) (nI (wf w)) (nI (wh w)) (lN (wo w)) (nI (un)) la bo (nI (tp)) ft (nI (wr0)) (nI (wa)) (nI (at0)) (nI (sp)) (nI (tk)) vl (nI (fi)) (nI (nm)) (nI (dp)) wy st (nI (aP2)) (nI (aF2)) (nI (aH2)) (lN aO2) (nI (ps)) (nI (mn2)) go2 (nI (vi)) ∧ g1 115 = .inl (cy 1, 8, .inl (fun x9 => nI (P2 x9))) ∧ g1 134 = .inl (cy 1, 1500, .inl (fun x9 => nI (MP2 x9))) ∧ g1 135 = .inl (cy 2, 1500, .inr (.inl MO2)) ∧ g1 136 = .inl (cy 1, 1500, .inl MF2) ∧ g1 137 = .inl (cy 1, 1500, .inl MB2) ∧ g1 138 = .inl (cy 1, 4096, .inl (fun x9 => nI (SL2 x9))) ∧ (∀ j, j ≠ 114 → j ≠ 115 → j ≠ 134 → j ≠ 135 → j ≠ 136 → j ≠ 137 → j ≠ 138 → g1 j = g j)) D ad N) 0 0 (AA ad N) := by
  refine mentry (by decide) (Nat.le_of_ble_eq_true rfl) (fun p e s m below meth c ls S hr hlk hnm hP hK hl => ?_)
  have S : CallFix p m c cX10_wayAt 5 s _ wsL_law RX10 := S
  have hx := S.1
  have hb := S.2.1
  have hl : lv_has ls 5 [(0, .ref (ad 114)), (1, .int x0), (2, .int z0)] := hl
  have hI : MD (AA ad N) ad N := MD.in hinj
  have hS : va_S (AA ad N) s.heap s.heap [] := va_S.rf
  have hfr : ∀ j : Nat, g j = g j := fun _ => rfl
  refine lv_aload_n hx hb dX10_wayAt_0 rfl (lv_at hl 0 rfl) ?_
  refine lv_iload_n hx hb dX10_wayAt_1 rfl (lv_at hl 1 rfl) ?_
  refine kVi (As := [.int x0]) (rest := []) S hK hP (c_X10_isPose l D cy ad N g (by omega) (wn w) (wf w) (wh w) (wo w) un la bo tp ft wr0 wa at0 sp tk vl fi nm dp wy st aP aF aH aO ps mn go vi hM hps x0) cv_X10_327 (by omega) hM ⟨_, _, rfl⟩ ⟨rfl, rfl⟩ rfl hl.1 rfl (Nat.le_of_ble_eq_true rfl) ⟨Nat.zero_le _, Nat.zero_le _⟩ dX10_wayAt_2 (fun r_2 q_2 => ?_)
  subst q_2
  refine lv_if_eq (tgt := 12) hx hb dX10_wayAt_5 (by decide) (fun c_5 => ?_) (fun c_5 => ?_)
  · skip
    have c_5 := bz_eq.mp c_5
    have hC : ¬ (isI x0 ps ∧ ¬ z0 < 0) := fun q => c_5 q.1
    refine lv_iconst (v := (-1)) hx hb dX10_wayAt_12 (by decide) ?_
    exact rMi S hr hlk hP hS ⟨_, aP, aF, aH, aO, mn, go, _, _, _, _, _, (if_neg hC).symm, hPw, hM, hP9, hm1, hm2, hm3, hm4, hm5, (fun j n0 n1 n2 n3 n4 n5 n6 => hfr j )⟩ dX10_wayAt_13
  · skip
    have c_5 := bz_ne.mp c_5
    obtain ⟨k0, hk0b, rfl⟩ := isI_nat (by omega) c_5
    have hJ := c_5
    have hk031 : k0 < 2 ^ 31 := by omega
    have hKq := hPR k0 hk0b
    refine lv_iload_n hx hb dX10_wayAt_8 rfl (lv_at hl 2 rfl) ?_
    refine lv_if_ge (tgt := 14) hx hb dX10_wayAt_9 (by decide) (fun c_9 => ?_) (fun c_9 => ?_)
    · skip
      have hC : isI (nI k0) ps ∧ ¬ z0 < 0 := ⟨hJ, Int32.not_lt.mpr c_9⟩
      refine lv_aload_n hx hb dX10_wayAt_14 rfl (lv_at hl 0 rfl) ?_
      refine lv_iload_n hx hb dX10_wayAt_15 rfl (lv_at hl 1 rfl) ?_
      refine kMv (As := [.int (nI (k0))]) (rest := []) S hK hP hS (fun _ h => h) (c_X10_seek l D cy ad N g hinj (by omega) w un la bo tp ft wr0 wa at0 sp tk vl fi nm dp wy st aP aF aH aO ps mn go vi hM P hP9 hw hPw MP hm1 MO9 hm2 MF hm3 MB hm4 SL hm5 QP hq1 QF hq2 QH hq3 QO hq4 Po hps hPR k0 hk0b) cv_X10_354 (by omega) hM ⟨_, _, rfl⟩ ⟨rfl, rfl⟩ rfl hl.1 rfl (Nat.le_of_ble_eq_true rfl) ⟨Nat.zero_le _, Nat.zero_le _⟩ dX10_wayAt_16 (fun g_1 H locs q_1 hP hS => ?_)
      obtain ⟨P2_1, MP2_1, MO2_1, MF2_1, MB2_1, SL2_1, hP2_1, hR2_1, h114_1, h115_1, h134_1, h135_1, h136_1, h137_1, h138_1, f_1⟩ := q_1
      have h130_1 : g_1 130 = .inl (cy 1, 6, .inl (fun x9 => nI (QP x9))) := (f_1 130 (by omega) (by omega) (by omega) (by omega) (by omega) (by omega) (by omega)).trans hq1
      have h131_1 : g_1 131 = .inl (cy 1, 6, .inl (fun x9 => nI (QF x9))) := (f_1 131 (by omega) (by omega) (by omega) (by omega) (by omega) (by omega) (by omega)).trans hq2
      have h132_1 : g_1 132 = .inl (cy 1, 6, .inl (fun x9 => nI (QH x9))) := (f_1 132 (by omega) (by omega) (by omega) (by omega) (by omega) (by omega) (by omega)).trans hq3
      have h133_1 : g_1 133 = .inl (cy 2, 6, .inr (.inl QO)) := (f_1 133 (by omega) (by omega) (by omega) (by omega) (by omega) (by omega) (by omega)).trans hq4
      have hfr_1 : ∀ j : Nat, j ≠ 114 → j ≠ 115 → j ≠ 134 → j ≠ 135 → j ≠ 136 → j ≠ 137 → j ≠ 138 → g_1 j = g j := fun j n0 n1 n2 n3 n4 n5 n6 => (f_1 j n0 n1 n2 n3 n4 n5 n6).trans (hfr j )
      have hRs := hR2_1
      have hPs := hP2_1
      have hg15 : qg (srO w (Po k0)) ≤ 1500 := Nat.le_trans hRs.2.2.2 hRs.1
      have hwl := fun (h0 : qg (srO w (Po k0)) ≠ 0) => wlen_le (mrel_p hRs) (m := qg (srO w (Po k0)) - 1) (by have := hRs.2.2.2; omega)
      refine lv_aload_n hx hb dX10_wayAt_19 rfl (lv_at hl 0 rfl) ?_
      refine mg S hK hP (by omega) h114_1 fd_X10_351 rfl dX10_wayAt_20 ?_
      refine lv_if_ge (tgt := 31) hx hb dX10_wayAt_23 (by decide) (fun c_23 => ?_) (fun c_23 => ?_)
      · skip
        have hgn := (gfM_n c_23 (by omega))
        have hW15 : wlen (qp (srO w (Po k0))) (qg (srO w (Po k0)) - 1) ≤ 1500 := Nat.le_trans (hwl hgn.1) (by omega)
        obtain ⟨zn, hznb, rfl⟩ := nI_of (x := z0) hC.2
        refine lv_aload_n hx hb dX10_wayAt_31 rfl (lv_at hl 0 rfl) ?_
        refine kVi (As := []) (rest := []) S hK hP (c_X10_steps l D cy ad N g_1 ((srO w (Po k0))) (qg (srO w (Po k0)) - 1) (by have := hRs.2.2.2; have := (gfM_n c_23 (by omega)).1; omega) (by omega) (wn w) (wf w) (wh w) (wo w) un la bo tp ft wr0 wa at0 sp tk vl fi nm dp wy st (pk P (wn w)) (wf w) (wh w) (wo w) ps vi (by rw [← (gfM_n c_23 (by omega)).2.1]; exact h114_1) MP2_1 h134_1 MO2_1 h135_1 MF2_1 h136_1 MB2_1 h137_1 SL2_1 h138_1 (wn w) (wf w) (wh w) hRs) cv_X10_357 (by omega) h114_1 ⟨_, _, rfl⟩ ⟨rfl, rfl⟩ rfl hl.1 rfl (Nat.le_of_ble_eq_true rfl) ⟨Nat.zero_le _, Nat.zero_le _⟩ dX10_wayAt_32 (fun r_32 q_32 => ?_)
        subst q_32
        refine lv_iconst (v := nI (1)) hx hb dX10_wayAt_35 (by decide) ?_
        refine lv_isub hx hb dX10_wayAt_36 ?_
        refine lv_iload_n hx hb dX10_wayAt_37 rfl (lv_at hl 2 rfl) ?_
        refine lv_isub hx hb dX10_wayAt_38 ?_
        refine lv_istore_n (lv' := [(3, .int (((nI (wlen (qp ((srO w (Po k0)))) (qg (srO w (Po k0)) - 1))) - (nI (1))) - (nI (zn)))), (0, .ref (ad 114)), (1, .int (nI (k0))), (2, .int (nI (zn)))]) hx hb dX10_wayAt_39 rfl hl (by decide) rfl (fun ls hl => ?_)
        refine lv_iload_n hx hb dX10_wayAt_40 rfl (lv_at hl 0 rfl) ?_
        refine lv_if_ge (tgt := 47) hx hb dX10_wayAt_41 (by decide) (fun c_41 => ?_) (fun c_41 => ?_)
        · skip
          have hzl := (lef0 hW15 hznb).mp c_41
          have hl : lv_has ls 5 [(3, .int (nI (wlen (qp (srO w (Po k0))) (qg (srO w (Po k0)) - 1) - 1 - zn))), (0, .ref (ad 114)), (1, .int (nI (k0))), (2, .int (nI (zn)))] := by rw [← lefn hzl]; exact hl
          have hqp := mrel_p hRs
          have hgl : qg (srO w (Po k0)) - 1 < qk (srO w (Po k0)) := by have := hRs.2.2.2; have := hgn.1; omega
          refine lv_aload_n hx hb dX10_wayAt_47 rfl (lv_at hl 1 rfl) ?_
          refine mg S hK hP (by omega) h114_1 fd_X10_351 rfl dX10_wayAt_48 ?_
          refine tpi (hgn.2.1) ?_
          refine lv_istore (lv' := [(4, .int (nI (qg (srO w (Po k0)) - 1))), (3, .int (nI (wlen (qp (srO w (Po k0))) (qg (srO w (Po k0)) - 1) - 1 - zn))), (0, .ref (ad 114)), (1, .int (nI (k0))), (2, .int (nI (zn)))]) hx hb dX10_wayAt_51 hl (by decide) rfl (fun ls hl => ?_)
          have L53 : ∀ (fu : Nat) (c9 : Nat), (c9 ≤ wlen (qp (srO w (Po k0))) (qg (srO w (Po k0)) - 1) - 1 - zn) → (wlen (qp (srO w (Po k0))) (qg (srO w (Po k0)) - 1) - 1 - zn - c9) < fu → ∀ (ls : Array Slot), lv_has ls 5 [(4, .int (nI (itp (qp (srO w (Po k0))) c9 (qg (srO w (Po k0)) - 1)))), (3, .int (nI (wlen (qp (srO w (Po k0))) (qg (srO w (Po k0)) - 1) - 1 - zn - c9))), (0, .ref (ad 114)), (1, .int (nI (k0))), (2, .int (nI (zn)))] → W p l e (rmF 5 118) s m [.ref (ad 114), .int (nI k0), .int (nI zn)].toArray below meth c H locs 0 0 (MQ below (QI (fun r g1 => ∃ (P2 : Nat → Nat), ∃ (aP2 : Nat), ∃ (aF2 : Nat), ∃ (aH2 : Nat), ∃ (aO2 : Nat), ∃ (mn2 : Nat), ∃ (go2 : Int32), ∃ (MP2 : Nat → Nat), ∃ (MO2 : Nat → Int64), ∃ (MF2 : Nat → Int32), ∃ (MB2 : Nat → Int32), ∃ (SL2 : Nat → Nat), (r = if isI (nI k0) ps ∧ ¬ (nI zn) < 0 then wyA (srO w (Po (nI k0).toNatClampNeg)) (nI zn) else -1) ∧ (∀ i, i < wn w → P2 i = wp w i) ∧ g1 114 = mob ad (nI (wn w)) (nI (wf w)) (nI (wh w)) (lN (wo w)) (nI (un)) la bo (nI (tp)) ft (nI (wr0)) (nI (wa)) (nI (at0)) (nI (sp)) (nI (tk)) vl (nI (fi)) (nI (nm)) (nI (dp)) wy st (nI (aP2)) (nI (aF2)) (nI (aH2)) (lN aO2) (nI (ps)) (nI (mn2)) go2 (nI (vi)) ∧ g1 115 = .inl (cy 1, 8, .inl (fun x9 => nI (P2 x9))) ∧ g1 134 = .inl (cy 1, 1500, .inl (fun x9 => nI (MP2 x9))) ∧ g1 135 = .inl (cy 2, 1500, .inr (.inl MO2)) ∧ g1 136 = .inl (cy 1, 1500, .inl MF2) ∧ g1 137 = .inl (cy 1, 1500, .inl MB2) ∧ g1 138 = .inl (cy 1, 4096, .inl (fun x9 => nI (SL2 x9))) ∧ (∀ j, j ≠ 114 → j ≠ 115 → j ≠ 134 → j ≠ 135 → j ≠ 136 → j ≠ 137 → j ≠ 138 → g1 j = g j)) D ad N) [.ref (ad 114), .int (nI k0), .int (nI zn)].toArray s 0 0 (AA ad N)) (F0 m 53 ls []) := by
            intro fu
            induction fu with
            | zero => intro c9 hc9 hms ls hl; exact absurd hms (Nat.not_lt_zero _)
            | succ fu ih53 =>
              intro c9 hc9 hms ls hl
              refine lv_iload_n hx hb dX10_wayAt_53 rfl (lv_at hl 1 rfl) ?_
              refine lv_if_le (tgt := 72) hx hb dX10_wayAt_54 (by decide) (fun c_54 => ?_) (fun c_54 => ?_)
              · skip
                have c_54 := (z_le (by omega)).mp c_54
                have hit := itp_ok hqp hgl c9 (by omega)
                have hi0 := wlen_pos hqp (m := itp (qp (srO w (Po k0))) c9 (qg (srO w (Po k0)) - 1)) (by omega) (by omega)
                have hiq := hRs.2.2.1 (itp (qp (srO w (Po k0))) c9 (qg (srO w (Po k0)) - 1)) (by omega)
                have hi15 := hRs.1
                have hig : itp (qp (srO w (Po k0))) c9 (qg (srO w (Po k0)) - 1) < 1500 := by omega
                have hcE : c9 = wlen (qp (srO w (Po k0))) (qg (srO w (Po k0)) - 1) - 1 - zn := by omega
                refine lv_aload_n hx hb dX10_wayAt_72 rfl (lv_at hl 2 rfl) ?_
                refine mg S hK hP (by omega) h114_1 fd_X10_87 rfl dX10_wayAt_73 ?_
                refine lv_iload hx hb dX10_wayAt_76 (lv_at hl 0 rfl) ?_
                refine mial S hK hP (by omega) h137_1 (vp_in_nI (by omega) (by omega)) dX10_wayAt_78 ?_
                refine tpi (congrArg MB2_1 (nI_clamp (by omega))) ?_
                refine tpi ((hiq.2.2.2.1.trans (if_neg (by omega)))) ?_
                exact rMi S hr hlk hP hS ⟨_, pk P (wn w), wf w, wh w, wo w, qk (srO w (Po k0)), gfM (srO w (Po k0)), _, _, _, _, _, (by rw [if_pos hC, nI_clamp hk031, wyA_y hznb hgn.2.2 hW15 hzl, hcE]), hPs, h114_1, h115_1, h134_1, h135_1, h136_1, h137_1, h138_1, hfr_1⟩ dX10_wayAt_79
              · skip
                have c_54 := (not_congr (z_le (by omega))).mp c_54
                have hit := itp_ok hqp hgl c9 (by omega)
                have hi0 := wlen_pos hqp (m := itp (qp (srO w (Po k0))) c9 (qg (srO w (Po k0)) - 1)) (by omega) (by omega)
                have hiq := hRs.2.2.1 (itp (qp (srO w (Po k0))) c9 (qg (srO w (Po k0)) - 1)) (by omega)
                have hi15 := hRs.1
                have hig : itp (qp (srO w (Po k0))) c9 (qg (srO w (Po k0)) - 1) < 1500 := by omega
                refine lv_aload_n hx hb dX10_wayAt_57 rfl (lv_at hl 2 rfl) ?_
                refine mg S hK hP (by omega) h114_1 fd_X10_84 rfl dX10_wayAt_58 ?_
                refine lv_iload hx hb dX10_wayAt_61 (lv_at hl 0 rfl) ?_
                refine mial S hK hP (by omega) h136_1 (vp_in_nI (by omega) (by omega)) dX10_wayAt_63 ?_
                refine tpi (congrArg MF2_1 (nI_clamp (by omega))) ?_
                refine tpi ((hiq.2.2.1.trans (if_neg (by omega)))) ?_
                refine lv_istore (lv' := [(4, .int (nI (qp (srO w (Po k0)) (itp (qp (srO w (Po k0))) c9 (qg (srO w (Po k0)) - 1))))), (3, .int (nI (wlen (qp (srO w (Po k0))) (qg (srO w (Po k0)) - 1) - 1 - zn - c9))), (0, .ref (ad 114)), (1, .int (nI (k0))), (2, .int (nI (zn)))]) hx hb dX10_wayAt_64 hl (by decide) rfl (fun ls hl => ?_)
                refine lv_iinc (v := nI (wlen (qp (srO w (Po k0))) (qg (srO w (Po k0)) - 1) - 1 - zn - (c9 + 1))) (lv' := [(3, .int (nI (wlen (qp (srO w (Po k0))) (qg (srO w (Po k0)) - 1) - 1 - zn - (c9 + 1)))), (4, .int (nI (qp (srO w (Po k0)) (itp (qp (srO w (Po k0))) c9 (qg (srO w (Po k0)) - 1))))), (0, .ref (ad 114)), (1, .int (nI (k0))), (2, .int (nI (zn)))]) hx hb dX10_wayAt_66 hl (k := 1) rfl (by rw [nI_dec (by omega), Nat.sub_sub]) (by decide) rfl (fun ls hl => ?_)
                refine lv_goto (tgt := 53) hx hb dX10_wayAt_69 (by decide) ?_
                exact ih53 (c9 + 1) (by omega) (by omega) _ (lv_sub hl [1, 0, 2, 3, 4] rfl)
          exact L53 ((wlen (qp (srO w (Po k0))) (qg (srO w (Po k0)) - 1) - 1 - zn - 0) + 1) 0 (by omega) (Nat.lt_succ_self _) _ (lv_sub hl [0, 1, 2, 3, 4] rfl)
        · skip
          refine lv_bipush (v := (-4)) hx hb dX10_wayAt_44 (by decide) ?_
          exact rMi S hr hlk hP hS ⟨_, pk P (wn w), wf w, wh w, wo w, qk (srO w (Po k0)), gfM (srO w (Po k0)), _, _, _, _, _, (by rw [if_pos hC, nI_clamp hk031, wyA_n hznb hgn.2.2 hW15 (fun q => c_41 ((lef0 hW15 hznb).mpr q))]), hPs, h114_1, h115_1, h134_1, h135_1, h136_1, h137_1, h138_1, hfr_1⟩ dX10_wayAt_46
      · skip
        refine lv_aload_n hx hb dX10_wayAt_26 rfl (lv_at hl 0 rfl) ?_
        refine mg S hK hP (by omega) h114_1 fd_X10_351 rfl dX10_wayAt_27 ?_
        exact rMi S hr hlk hP hS ⟨_, pk P (wn w), wf w, wh w, wo w, qk (srO w (Po k0)), gfM (srO w (Po k0)), _, _, _, _, _, (by rw [if_pos hC, nI_clamp hk031, wyA_0 hC.2 c_23 (by omega)]), hPs, h114_1, h115_1, h134_1, h135_1, h136_1, h137_1, h138_1, hfr_1⟩ dX10_wayAt_30
    · skip
      have hC : ¬ (isI (nI k0) ps ∧ ¬ z0 < 0) := fun q => c_9 (Int32.not_lt.mp q.2)
      refine lv_iconst (v := (-1)) hx hb dX10_wayAt_12 (by decide) ?_
      exact rMi S hr hlk hP hS ⟨_, aP, aF, aH, aO, mn, go, _, _, _, _, _, (if_neg hC).symm, hPw, hM, hP9, hm1, hm2, hm3, hm4, hm5, (fun j n0 n1 n2 n3 n4 n5 n6 => hfr j )⟩ dX10_wayAt_13

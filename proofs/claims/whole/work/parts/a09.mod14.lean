set_option maxHeartbeats 4000000 in
set_option maxRecDepth 100000 in
theorem c_X10_meets (l : Launch) (D : va_G) (cy : Nat → ClassId) (ad : Nat → Nat) (N : Nat) (g : Nat → va_E) (hinj : ∀ i j : Nat, i < N → j < N → ad i = ad j → i = j) (Q : QS) (hN : 145 ≤ N) (w : WT) (un : Nat) (la : Int32) (bo : Int32) (tp : Nat) (ft : Int32) (wr0 : Nat) (wa : Nat) (at0 : Nat) (sp : Nat) (tk : Nat) (vl : Int32) (fi : Nat) (nm : Nat) (dp : Nat) (wy : Int32) (st : Int32) (aP : Nat) (aF : Nat) (aH : Nat) (aO : Nat) (ps : Nat) (go : Int32) (vi : Nat) (hM : g 114 = mob ad (nI (wn w)) (nI (wf w)) (nI (wh w)) (lN (wo w)) (nI (un)) la bo (nI (tp)) ft (nI (wr0)) (nI (wa)) (nI (at0)) (nI (sp)) (nI (tk)) vl (nI (fi)) (nI (nm)) (nI (dp)) wy st (nI (aP)) (nI (aF)) (nI (aH)) (lN aO) (nI (ps)) (nI (qk Q)) go (nI (vi))) (P : Nat → Nat) (hP9 : g 115 = .inl (cy 1, 8, .inl (fun x9 => nI (P x9)))) (hw : WOK w) (hPw : ∀ i, i < wn w → P i = wp w i) (MP : Nat → Nat) (hm1 : g 134 = .inl (cy 1, 1500, .inl (fun x9 => nI (MP x9)))) (MO9 : Nat → Int64) (hm2 : g 135 = .inl (cy 2, 1500, .inr (.inl MO9))) (MF : Nat → Int32) (hm3 : g 136 = .inl (cy 1, 1500, .inl MF)) (MB : Nat → Int32) (hm4 : g 137 = .inl (cy 1, 1500, .inl MB)) (SL : Nat → Nat) (hm5 : g 138 = .inl (cy 1, 4096, .inl (fun x9 => nI (SL x9)))) (t : WT) (gk : Int64) (p9 : Nat) (a9 : Nat) (pr : Int32) (ar : Int32) (hR : MREL Q (wn w) (wf w) (wh w) MP MO9 MF MB SL) (hk15 : qk Q < 1500) (hpr : pr = if qk Q = 0 then -4 else nI p9) (har : ar = if qk Q = 0 then -4 else nI a9) (hp9 : qk Q = 0 ∨ p9 < qk Q) (ha9 : a9 < 16) : Met l yX10_meets (WS yX10_meets cX10_meets 8 (some .boolean)) (rmF 1 23) (PP [.ref (ad 114), .int pr, .int ar] D cy ad N g) (QI (fun r g1 => ∃ (MP2 : Nat → Nat), ∃ (MO2 : Nat → Int64), ∃ (MF2 : Nat → Int32), ∃ (MB2 : Nat → Int32), ∃ (SL2 : Nat → Nat), (r = if (isMet Q w = false) then 1 else 0) ∧ (MREL (mt Q w t gk p9 a9) (wn w) (wf w) (wh w) MP2 MO2 MF2 MB2 SL2) ∧ g1 114 = mob ad (nI (wn w)) (nI (wf w)) (nI (wh w)) (lN (wo w)) (nI (un)) la bo (nI (tp)) ft (nI (wr0)) (nI (wa)) (nI (at0)) (nI (sp)) (nI (tk)) vl (nI (fi)) (nI (nm)) (nI (dp)) wy st (nI (aP)) (nI (aF)) (nI (aH)) (lN aO) (nI (ps)) (nI (qk (mt Q w t gk p9 a9))) go (nI (vi)) ∧ g1 134 = .inl (cy 1, 1500, .inl (fun x9 => nI (MP2 x9))) ∧ g1 135 = .inl (cy 2, 1500, .inr (.inl MO2)) ∧ g1 136 = .inl (cy 1, 1500, .inl MF2) ∧ g1 137 = .inl (cy 1, 1500, .inl MB2) ∧ g1 138 = .inl (cy 1, 4096, .inl (fun x9 => nI (SL2 x9))) ∧ (∀ j, j ≠ 114 → j ≠ 134 → j ≠ 135 → j ≠ 136 → j ≠ 137 → j ≠ 138 → g1 j = g j)) D ad N) 0 0 (AA ad N) := by
  refine mentry (by decide) (Nat.le_of_ble_eq_true rfl) (fun p e s m below meth c ls S hr hlk hnm hP hK hl => ?_)
  have S : CallFix p m c cX10_meets 8 s _ wsL_law RX10 := S
  have hx := S.1
  have hb := S.2.1
  have hl : lv_has ls 8 [(0, .ref (ad 114)), (1, .int pr), (2, .int ar)] := hl
  have hI : MD (AA ad N) ad N := MD.in hinj
  have hS : va_S (AA ad N) s.heap s.heap [] := va_S.rf
  have hfr : ∀ j : Nat, g j = g j := fun _ => rfl
  have hn4 := hw.1.1
  have hn8 := hw.1.2
  have hpm := perm_P hw hPw
  have hf := lt256 hw.2.2.1 hn8
  have hh := lt256 hw.2.2.2.1 hn8
  have ho := hw.2.2.2.2.1
  have hP8 := P8 hw hPw
  have hpk := pk_24 hn8 hP8
  have hsl := slM_ok hR.2.1 hR.1 (kyM (wn w) w) (lN (wo w))
  have hkw := pk64 (n := wn w) (P := wp w) (by omega) hn8
  refine lv_aload_n hx hb dX10_meets_0 rfl (lv_at hl 0 rfl) ?_
  refine lv_aload_n hx hb dX10_meets_1 rfl (lv_at hl 0 rfl) ?_
  refine kVi (As := []) (rest := [.ref (ad 114)]) S hK hP (c_X10_packed l D cy ad N g (by omega) (wn w) (wf w) (wh w) (wo w) un la bo tp ft wr0 wa at0 sp tk vl fi nm dp wy st aP aF aH aO ps (qk Q) go vi hM hn4 hn8 P hP9) cv_X10_153 (by omega) hM ⟨_, _, rfl⟩ ⟨rfl, rfl⟩ rfl hl.1 rfl (Nat.le_of_ble_eq_true rfl) ⟨Nat.zero_le _, Nat.zero_le _⟩ dX10_meets_2 (fun r_2 q_2 => ?_)
  subst q_2
  refine kVi (As := [.int (nI (pk P (wn w)))]) (rest := []) S hK hP (c_X10_turned l D cy ad N g (by omega) (wn w) (wf w) (wh w) (wo w) un la bo tp ft wr0 wa at0 sp tk vl fi nm dp wy st aP aF aH aO ps (qk Q) go vi hM hn4 hn8 (pk P (wn w)) hpk P (fun i hi => pk_nib hP8 hi) hpm.2.1) cv_X10_330 (by omega) hM ⟨_, _, rfl⟩ ⟨rfl, rfl⟩ rfl hl.1 rfl (Nat.le_of_ble_eq_true rfl) ⟨Nat.zero_le _, Nat.zero_le _⟩ dX10_meets_5 (fun r_5 q_5 => ?_)
  subst q_5
  refine tpi (congrArg nI (pk_congr (trn_c (by omega) hPw))) ?_
  refine lv_istore_n (lv' := [(3, .int (nI (pk (trn (wn w) (wp w)) (wn w)))), (0, .ref (ad 114)), (1, .int pr), (2, .int ar)]) hx hb dX10_meets_8 rfl hl (by decide) rfl (fun ls hl => ?_)
  refine lv_iload_n hx hb dX10_meets_9 rfl (lv_at hl 0 rfl) ?_
  refine lv_i2l hx hb dX10_meets_10 rfl ?_
  refine tpl (nI_l (by omega)) ?_
  refine lv_ldc2 hx hb S.2.2.2.1 (S.2.2.2.2 _ m_X10_336) dX10_meets_11 ?_
  refine tpl (show (31 : Int64) = lN 31 from rfl) ?_
  refine lv_lmul hx hb dX10_meets_14 ?_
  refine lv_aload_n hx hb dX10_meets_15 rfl (lv_at hl 1 rfl) ?_
  refine mg S hK hP (by omega) hM fd_X10_119 rfl dX10_meets_16 ?_
  refine lv_ldc2 hx hb S.2.2.2.1 (S.2.2.2.2 _ m_X10_338) dX10_meets_19 ?_
  refine lv_lmul hx hb dX10_meets_22 ?_
  refine lv_lxor hx hb dX10_meets_23 ?_
  refine lv_ldc2 hx hb S.2.2.2.1 (S.2.2.2.2 _ m_X10_340) dX10_meets_24 ?_
  refine tpl (show (2685821657736338717 : Int64) = lN 2685821657736338717 from rfl) ?_
  refine lv_lmul hx hb dX10_meets_27 ?_
  refine lv_lstore (lv' := [(4, .long ((((lN (pk (trn (wn w) (wp w)) (wn w))) * (lN 31)) ^^^ ((lN (wo w)) * ((-7046029254386353131)))) * (lN 2685821657736338717))), (3, .int (nI (pk (trn (wn w) (wp w)) (wn w)))), (0, .ref (ad 114)), (1, .int pr), (2, .int ar)]) hx hb dX10_meets_28 hl (by decide) rfl (fun ls hl => ?_)
  refine lv_lload hx hb dX10_meets_30 (lv_at hl 0 rfl) ?_
  refine lv_bipush (v := nI (40)) hx hb dX10_meets_32 (by decide) ?_
  refine lv_lushr hx hb dX10_meets_34 rfl ?_
  refine lv_l2i hx hb dX10_meets_35 rfl ?_
  refine lv_sipush (v := nI (4095)) hx hb dX10_meets_36 (by decide) ?_
  refine lv_iand hx hb dX10_meets_39 ?_
  refine tpi (hoM_k (kyM (wn w) w) (lN (wo w))) ?_
  refine lv_istore (lv' := [(6, .int (nI (((hoM (kyM (wn w) w) (lN (wo w))) + 0) % 4096))), (4, .long ((((lN (pk (trn (wn w) (wp w)) (wn w))) * (lN 31)) ^^^ ((lN (wo w)) * ((-7046029254386353131)))) * (lN 2685821657736338717))), (3, .int (nI (pk (trn (wn w) (wp w)) (wn w)))), (0, .ref (ad 114)), (1, .int pr), (2, .int ar)]) hx hb dX10_meets_40 hl (by decide) rfl (fun ls hl => ?_)
  have L42 : ∀ (fu : Nat) (d9 : Nat), (d9 ≤ slM SL (fun m => kyM (wn w) (qM Q m)) (fun m => lN (wo (qM Q m))) (kyM (wn w) w) (lN (wo w))) → (∀ j, j < d9 → stP SL (fun m => kyM (wn w) (qM Q m)) (fun m => lN (wo (qM Q m))) (hoM (kyM (wn w) w) (lN (wo w))) (kyM (wn w) w) (lN (wo w)) j = false) → (4096 - d9) < fu → ∀ (ls : Array Slot), lv_has ls 8 [(6, .int (nI (((hoM (kyM (wn w) w) (lN (wo w))) + d9) % 4096))), (3, .int (nI (pk (trn (wn w) (wp w)) (wn w)))), (0, .ref (ad 114)), (1, .int pr), (2, .int ar)] → W p l e (rmF 1 23) s m [.ref (ad 114), .int pr, .int ar].toArray below meth c s.heap [] 0 0 (MQ below (QI (fun r g1 => ∃ (MP2 : Nat → Nat), ∃ (MO2 : Nat → Int64), ∃ (MF2 : Nat → Int32), ∃ (MB2 : Nat → Int32), ∃ (SL2 : Nat → Nat), (r = if (isMet Q w = false) then 1 else 0) ∧ (MREL (mt Q w t gk p9 a9) (wn w) (wf w) (wh w) MP2 MO2 MF2 MB2 SL2) ∧ g1 114 = mob ad (nI (wn w)) (nI (wf w)) (nI (wh w)) (lN (wo w)) (nI (un)) la bo (nI (tp)) ft (nI (wr0)) (nI (wa)) (nI (at0)) (nI (sp)) (nI (tk)) vl (nI (fi)) (nI (nm)) (nI (dp)) wy st (nI (aP)) (nI (aF)) (nI (aH)) (lN aO) (nI (ps)) (nI (qk (mt Q w t gk p9 a9))) go (nI (vi)) ∧ g1 134 = .inl (cy 1, 1500, .inl (fun x9 => nI (MP2 x9))) ∧ g1 135 = .inl (cy 2, 1500, .inr (.inl MO2)) ∧ g1 136 = .inl (cy 1, 1500, .inl MF2) ∧ g1 137 = .inl (cy 1, 1500, .inl MB2) ∧ g1 138 = .inl (cy 1, 4096, .inl (fun x9 => nI (SL2 x9))) ∧ (∀ j, j ≠ 114 → j ≠ 134 → j ≠ 135 → j ≠ 136 → j ≠ 137 → j ≠ 138 → g1 j = g j)) D ad N) [.ref (ad 114), .int pr, .int ar].toArray s 0 0 (AA ad N)) (F0 m 42 ls []) := by
    intro fu
    induction fu with
    | zero => intro d9 hd9 hno hms ls hl; exact absurd hms (Nat.not_lt_zero _)
    | succ fu ih42 =>
      intro d9 hd9 hno hms ls hl
      refine lv_aload_n hx hb dX10_meets_42 rfl (lv_at hl 2 rfl) ?_
      refine mg S hK hP (by omega) hM fd_X10_90 rfl dX10_meets_43 ?_
      refine lv_iload hx hb dX10_meets_46 (lv_at hl 0 rfl) ?_
      refine mial S hK hP (by omega) hm5 (vp_in_nI (by omega) (by omega)) dX10_meets_48 ?_
      refine tpi (congrArg ((fun x9 => nI (SL x9))) (nI_clamp (by omega))) ?_
      have hsb := hR.2.1.1 (((hoM (kyM (wn w) w) (lN (wo w))) + d9) % 4096) (Nat.mod_lt _ (by decide))
      have hs4 : ((hoM (kyM (wn w) w) (lN (wo w))) + d9) % 4096 < 4096 := Nat.mod_lt _ (by decide)
      have hq15 := hR.1
      refine lv_if_le (tgt := 108) hx hb dX10_meets_49 (by decide) (fun c_49 => ?_) (fun c_49 => ?_)
      · skip
        have c_49 := (z_le (by omega)).mp c_49
        have hsE : slM SL (fun m => kyM (wn w) (qM Q m)) (fun m => lN (wo (qM Q m))) (kyM (wn w) w) (lN (wo w)) = d9 := fs_yes hno (stP_0 c_49) (Nat.lt_of_le_of_lt hd9 hsl.1)
        have hsT : ((hoM (kyM (wn w) w) (lN (wo w))) + d9) % 4096 = slT SL (fun m => kyM (wn w) (qM Q m)) (fun m => lN (wo (qM Q m))) (kyM (wn w) w) (lN (wo w)) := by unfold slT; rw [hsE]
        have hput := mput (t := t) (gk := gk) hR hw rfl rfl rfl hk15 hsT c_49 rfl hpr har hp9 ha9
        refine lv_aload_n hx hb dX10_meets_108 rfl (lv_at hl 2 rfl) ?_
        refine mg S hK hP (by omega) hM fd_X10_90 rfl dX10_meets_109 ?_
        refine lv_iload hx hb dX10_meets_112 (lv_at hl 0 rfl) ?_
        refine lv_aload_n hx hb dX10_meets_114 rfl (lv_at hl 2 rfl) ?_
        refine mg S hK hP (by omega) hM fd_X10_342 rfl dX10_meets_115 ?_
        refine lv_iconst (v := nI (1)) hx hb dX10_meets_118 (by decide) ?_
        refine lv_iadd hx hb dX10_meets_119 ?_
        refine tpi (nI_add (qk Q) 1) ?_
        refine mias S hK hP hI hS (by omega) hm5 (vp_in_nI (by omega) (by omega)) dX10_meets_120 (fun g_1 H locs eg_1 hP hS => ?_)
        have h138_1 : g_1 138 = .inl (cy 1, 4096, .inl (fun x9 => nI ((va_up SL (((hoM (kyM (wn w) w) (lN (wo w))) + d9) % 4096) (qk Q + 1)) x9))) := by rw [eg_1, va_up_self]; exact (arrN_up (by omega))
        have h114_1 : g_1 114 = mob ad (nI (wn w)) (nI (wf w)) (nI (wh w)) (lN (wo w)) (nI (un)) la bo (nI (tp)) ft (nI (wr0)) (nI (wa)) (nI (at0)) (nI (sp)) (nI (tk)) vl (nI (fi)) (nI (nm)) (nI (dp)) wy st (nI (aP)) (nI (aF)) (nI (aH)) (lN aO) (nI (ps)) (nI (qk Q)) go (nI (vi)) := ((congrFun eg_1 _).trans (va_up_ne _ _ (by omega))).trans hM
        have h115_1 : g_1 115 = .inl (cy 1, 8, .inl (fun x9 => nI (P x9))) := ((congrFun eg_1 _).trans (va_up_ne _ _ (by omega))).trans hP9
        have h134_1 : g_1 134 = .inl (cy 1, 1500, .inl (fun x9 => nI (MP x9))) := ((congrFun eg_1 _).trans (va_up_ne _ _ (by omega))).trans hm1
        have h135_1 : g_1 135 = .inl (cy 2, 1500, .inr (.inl MO9)) := ((congrFun eg_1 _).trans (va_up_ne _ _ (by omega))).trans hm2
        have h136_1 : g_1 136 = .inl (cy 1, 1500, .inl MF) := ((congrFun eg_1 _).trans (va_up_ne _ _ (by omega))).trans hm3
        have h137_1 : g_1 137 = .inl (cy 1, 1500, .inl MB) := ((congrFun eg_1 _).trans (va_up_ne _ _ (by omega))).trans hm4
        have hfr_1 : ∀ j : Nat, j ≠ 138 → g_1 j = g j := fun j n0 => ((congrFun eg_1 _).trans (va_up_ne _ _ n0)).trans (hfr j )
        refine lv_aload_n hx hb dX10_meets_121 rfl (lv_at hl 2 rfl) ?_
        refine mg S hK hP (by omega) h114_1 fd_X10_78 rfl dX10_meets_122 ?_
        refine lv_aload_n hx hb dX10_meets_125 rfl (lv_at hl 2 rfl) ?_
        refine mg S hK hP (by omega) h114_1 fd_X10_342 rfl dX10_meets_126 ?_
        refine lv_aload_n hx hb dX10_meets_129 rfl (lv_at hl 2 rfl) ?_
        refine kVi (As := []) (rest := [.int (nI (qk Q)), .ref (ad 134)]) S hK hP (c_X10_packed l D cy ad N g_1 (by omega) (wn w) (wf w) (wh w) (wo w) un la bo tp ft wr0 wa at0 sp tk vl fi nm dp wy st aP aF aH aO ps (qk Q) go vi h114_1 hn4 hn8 P h115_1) cv_X10_153 (by omega) h114_1 ⟨_, _, rfl⟩ ⟨rfl, rfl⟩ rfl hl.1 rfl (Nat.le_of_ble_eq_true rfl) ⟨Nat.zero_le _, Nat.zero_le _⟩ dX10_meets_130 (fun r_130 q_130 => ?_)
        subst q_130
        refine tpi (congrArg nI (pk_congr hPw)) ?_
        refine mias S hK hP hI hS (by omega) h134_1 (vp_in_nI (by omega) (by omega)) dX10_meets_133 (fun g_2 H locs eg_2 hP hS => ?_)
        have h134_2 : g_2 134 = .inl (cy 1, 1500, .inl (fun x9 => nI ((va_up MP (qk Q) (pk (wp w) (wn w))) x9))) := by rw [eg_2, va_up_self]; exact (arrN_up (by omega))
        have h114_2 : g_2 114 = mob ad (nI (wn w)) (nI (wf w)) (nI (wh w)) (lN (wo w)) (nI (un)) la bo (nI (tp)) ft (nI (wr0)) (nI (wa)) (nI (at0)) (nI (sp)) (nI (tk)) vl (nI (fi)) (nI (nm)) (nI (dp)) wy st (nI (aP)) (nI (aF)) (nI (aH)) (lN aO) (nI (ps)) (nI (qk Q)) go (nI (vi)) := ((congrFun eg_2 _).trans (va_up_ne _ _ (by omega))).trans h114_1
        have h115_2 : g_2 115 = .inl (cy 1, 8, .inl (fun x9 => nI (P x9))) := ((congrFun eg_2 _).trans (va_up_ne _ _ (by omega))).trans h115_1
        have h135_2 : g_2 135 = .inl (cy 2, 1500, .inr (.inl MO9)) := ((congrFun eg_2 _).trans (va_up_ne _ _ (by omega))).trans h135_1
        have h136_2 : g_2 136 = .inl (cy 1, 1500, .inl MF) := ((congrFun eg_2 _).trans (va_up_ne _ _ (by omega))).trans h136_1
        have h137_2 : g_2 137 = .inl (cy 1, 1500, .inl MB) := ((congrFun eg_2 _).trans (va_up_ne _ _ (by omega))).trans h137_1
        have h138_2 : g_2 138 = .inl (cy 1, 4096, .inl (fun x9 => nI ((va_up SL (((hoM (kyM (wn w) w) (lN (wo w))) + d9) % 4096) (qk Q + 1)) x9))) := ((congrFun eg_2 _).trans (va_up_ne _ _ (by omega))).trans h138_1
        have hfr_2 : ∀ j : Nat, j ≠ 138 → j ≠ 134 → g_2 j = g j := fun j n0 n1 => ((congrFun eg_2 _).trans (va_up_ne _ _ n1)).trans (hfr_1 j n0)
        refine lv_aload_n hx hb dX10_meets_134 rfl (lv_at hl 2 rfl) ?_
        refine mg S hK hP (by omega) h114_2 fd_X10_81 rfl dX10_meets_135 ?_
        refine lv_aload_n hx hb dX10_meets_138 rfl (lv_at hl 2 rfl) ?_
        refine mg S hK hP (by omega) h114_2 fd_X10_342 rfl dX10_meets_139 ?_
        refine lv_aload_n hx hb dX10_meets_142 rfl (lv_at hl 2 rfl) ?_
        refine mg S hK hP (by omega) h114_2 fd_X10_119 rfl dX10_meets_143 ?_
        refine mlas S hK hP hI hS (by omega) h135_2 (vp_in_nI (by omega) (by omega)) dX10_meets_146 (fun g_3 H locs eg_3 hP hS => ?_)
        have h135_3 : g_3 135 = .inl (cy 2, 1500, .inr (.inl (vp_updL MO9 (qk Q) (lN (wo w))))) := by rw [eg_3, va_up_self]; exact (arrL_up (by omega))
        have h114_3 : g_3 114 = mob ad (nI (wn w)) (nI (wf w)) (nI (wh w)) (lN (wo w)) (nI (un)) la bo (nI (tp)) ft (nI (wr0)) (nI (wa)) (nI (at0)) (nI (sp)) (nI (tk)) vl (nI (fi)) (nI (nm)) (nI (dp)) wy st (nI (aP)) (nI (aF)) (nI (aH)) (lN aO) (nI (ps)) (nI (qk Q)) go (nI (vi)) := ((congrFun eg_3 _).trans (va_up_ne _ _ (by omega))).trans h114_2
        have h115_3 : g_3 115 = .inl (cy 1, 8, .inl (fun x9 => nI (P x9))) := ((congrFun eg_3 _).trans (va_up_ne _ _ (by omega))).trans h115_2
        have h134_3 : g_3 134 = .inl (cy 1, 1500, .inl (fun x9 => nI ((va_up MP (qk Q) (pk (wp w) (wn w))) x9))) := ((congrFun eg_3 _).trans (va_up_ne _ _ (by omega))).trans h134_2
        have h136_3 : g_3 136 = .inl (cy 1, 1500, .inl MF) := ((congrFun eg_3 _).trans (va_up_ne _ _ (by omega))).trans h136_2
        have h137_3 : g_3 137 = .inl (cy 1, 1500, .inl MB) := ((congrFun eg_3 _).trans (va_up_ne _ _ (by omega))).trans h137_2
        have h138_3 : g_3 138 = .inl (cy 1, 4096, .inl (fun x9 => nI ((va_up SL (((hoM (kyM (wn w) w) (lN (wo w))) + d9) % 4096) (qk Q + 1)) x9))) := ((congrFun eg_3 _).trans (va_up_ne _ _ (by omega))).trans h138_2
        have hfr_3 : ∀ j : Nat, j ≠ 138 → j ≠ 134 → j ≠ 135 → g_3 j = g j := fun j n0 n1 n2 => ((congrFun eg_3 _).trans (va_up_ne _ _ n2)).trans (hfr_2 j n0 n1)
        refine lv_aload_n hx hb dX10_meets_147 rfl (lv_at hl 2 rfl) ?_
        refine mg S hK hP (by omega) h114_3 fd_X10_84 rfl dX10_meets_148 ?_
        refine lv_aload_n hx hb dX10_meets_151 rfl (lv_at hl 2 rfl) ?_
        refine mg S hK hP (by omega) h114_3 fd_X10_342 rfl dX10_meets_152 ?_
        refine lv_iload_n hx hb dX10_meets_155 rfl (lv_at hl 3 rfl) ?_
        refine mias S hK hP hI hS (by omega) h136_3 (vp_in_nI (by omega) (by omega)) dX10_meets_156 (fun g_4 H locs eg_4 hP hS => ?_)
        have h136_4 : g_4 136 = .inl (cy 1, 1500, .inl (upd MF (qk Q) pr)) := by rw [eg_4, va_up_self]; exact (arrI_up (by omega))
        have h114_4 : g_4 114 = mob ad (nI (wn w)) (nI (wf w)) (nI (wh w)) (lN (wo w)) (nI (un)) la bo (nI (tp)) ft (nI (wr0)) (nI (wa)) (nI (at0)) (nI (sp)) (nI (tk)) vl (nI (fi)) (nI (nm)) (nI (dp)) wy st (nI (aP)) (nI (aF)) (nI (aH)) (lN aO) (nI (ps)) (nI (qk Q)) go (nI (vi)) := ((congrFun eg_4 _).trans (va_up_ne _ _ (by omega))).trans h114_3
        have h115_4 : g_4 115 = .inl (cy 1, 8, .inl (fun x9 => nI (P x9))) := ((congrFun eg_4 _).trans (va_up_ne _ _ (by omega))).trans h115_3
        have h134_4 : g_4 134 = .inl (cy 1, 1500, .inl (fun x9 => nI ((va_up MP (qk Q) (pk (wp w) (wn w))) x9))) := ((congrFun eg_4 _).trans (va_up_ne _ _ (by omega))).trans h134_3
        have h135_4 : g_4 135 = .inl (cy 2, 1500, .inr (.inl (vp_updL MO9 (qk Q) (lN (wo w))))) := ((congrFun eg_4 _).trans (va_up_ne _ _ (by omega))).trans h135_3
        have h137_4 : g_4 137 = .inl (cy 1, 1500, .inl MB) := ((congrFun eg_4 _).trans (va_up_ne _ _ (by omega))).trans h137_3
        have h138_4 : g_4 138 = .inl (cy 1, 4096, .inl (fun x9 => nI ((va_up SL (((hoM (kyM (wn w) w) (lN (wo w))) + d9) % 4096) (qk Q + 1)) x9))) := ((congrFun eg_4 _).trans (va_up_ne _ _ (by omega))).trans h138_3
        have hfr_4 : ∀ j : Nat, j ≠ 138 → j ≠ 134 → j ≠ 135 → j ≠ 136 → g_4 j = g j := fun j n0 n1 n2 n3 => ((congrFun eg_4 _).trans (va_up_ne _ _ n3)).trans (hfr_3 j n0 n1 n2)
        refine lv_aload_n hx hb dX10_meets_157 rfl (lv_at hl 2 rfl) ?_
        refine mg S hK hP (by omega) h114_4 fd_X10_87 rfl dX10_meets_158 ?_
        refine lv_aload_n hx hb dX10_meets_161 rfl (lv_at hl 2 rfl) ?_
        refine mg S hK hP (by omega) h114_4 fd_X10_342 rfl dX10_meets_162 ?_
        refine lv_iload_n hx hb dX10_meets_165 rfl (lv_at hl 4 rfl) ?_
        refine mias S hK hP hI hS (by omega) h137_4 (vp_in_nI (by omega) (by omega)) dX10_meets_166 (fun g_5 H locs eg_5 hP hS => ?_)
        have h137_5 : g_5 137 = .inl (cy 1, 1500, .inl (upd MB (qk Q) ar)) := by rw [eg_5, va_up_self]; exact (arrI_up (by omega))
        have h114_5 : g_5 114 = mob ad (nI (wn w)) (nI (wf w)) (nI (wh w)) (lN (wo w)) (nI (un)) la bo (nI (tp)) ft (nI (wr0)) (nI (wa)) (nI (at0)) (nI (sp)) (nI (tk)) vl (nI (fi)) (nI (nm)) (nI (dp)) wy st (nI (aP)) (nI (aF)) (nI (aH)) (lN aO) (nI (ps)) (nI (qk Q)) go (nI (vi)) := ((congrFun eg_5 _).trans (va_up_ne _ _ (by omega))).trans h114_4
        have h115_5 : g_5 115 = .inl (cy 1, 8, .inl (fun x9 => nI (P x9))) := ((congrFun eg_5 _).trans (va_up_ne _ _ (by omega))).trans h115_4
        have h134_5 : g_5 134 = .inl (cy 1, 1500, .inl (fun x9 => nI ((va_up MP (qk Q) (pk (wp w) (wn w))) x9))) := ((congrFun eg_5 _).trans (va_up_ne _ _ (by omega))).trans h134_4
        have h135_5 : g_5 135 = .inl (cy 2, 1500, .inr (.inl (vp_updL MO9 (qk Q) (lN (wo w))))) := ((congrFun eg_5 _).trans (va_up_ne _ _ (by omega))).trans h135_4
        have h136_5 : g_5 136 = .inl (cy 1, 1500, .inl (upd MF (qk Q) pr)) := ((congrFun eg_5 _).trans (va_up_ne _ _ (by omega))).trans h136_4
        have h138_5 : g_5 138 = .inl (cy 1, 4096, .inl (fun x9 => nI ((va_up SL (((hoM (kyM (wn w) w) (lN (wo w))) + d9) % 4096) (qk Q + 1)) x9))) := ((congrFun eg_5 _).trans (va_up_ne _ _ (by omega))).trans h138_4
        have hfr_5 : ∀ j : Nat, j ≠ 138 → j ≠ 134 → j ≠ 135 → j ≠ 136 → j ≠ 137 → g_5 j = g j := fun j n0 n1 n2 n3 n4 => ((congrFun eg_5 _).trans (va_up_ne _ _ n4)).trans (hfr_4 j n0 n1 n2 n3)
        refine lv_aload_n hx hb dX10_meets_167 rfl (lv_at hl 2 rfl) ?_
        refine lv_dup hx hb dX10_meets_168 rfl ?_
        refine mg S hK hP (by omega) h114_5 fd_X10_342 rfl dX10_meets_169 ?_
        refine lv_iconst (v := nI (1)) hx hb dX10_meets_172 (by decide) ?_
        refine lv_iadd hx hb dX10_meets_173 ?_
        refine tpi (nI_add (qk Q) 1) ?_
        refine mp S hK hP hI hS (by omega) h114_5 fd_X10_342 rfl rfl (Nat.le_of_ble_eq_true rfl) dX10_meets_174 (fun g_6 H locs eg_6 hP hS => ?_)
        have h114_6 : g_6 114 = mob ad (nI (wn w)) (nI (wf w)) (nI (wh w)) (lN (wo w)) (nI (un)) la bo (nI (tp)) ft (nI (wr0)) (nI (wa)) (nI (at0)) (nI (sp)) (nI (tk)) vl (nI (fi)) (nI (nm)) (nI (dp)) wy st (nI (aP)) (nI (aF)) (nI (aH)) (lN aO) (nI (ps)) (nI (qk Q + 1)) go (nI (vi)) := by rw [eg_6, va_up_self]; exact rfl
        have h115_6 : g_6 115 = .inl (cy 1, 8, .inl (fun x9 => nI (P x9))) := ((congrFun eg_6 _).trans (va_up_ne _ _ (by omega))).trans h115_5
        have h134_6 : g_6 134 = .inl (cy 1, 1500, .inl (fun x9 => nI ((va_up MP (qk Q) (pk (wp w) (wn w))) x9))) := ((congrFun eg_6 _).trans (va_up_ne _ _ (by omega))).trans h134_5
        have h135_6 : g_6 135 = .inl (cy 2, 1500, .inr (.inl (vp_updL MO9 (qk Q) (lN (wo w))))) := ((congrFun eg_6 _).trans (va_up_ne _ _ (by omega))).trans h135_5
        have h136_6 : g_6 136 = .inl (cy 1, 1500, .inl (upd MF (qk Q) pr)) := ((congrFun eg_6 _).trans (va_up_ne _ _ (by omega))).trans h136_5
        have h137_6 : g_6 137 = .inl (cy 1, 1500, .inl (upd MB (qk Q) ar)) := ((congrFun eg_6 _).trans (va_up_ne _ _ (by omega))).trans h137_5
        have h138_6 : g_6 138 = .inl (cy 1, 4096, .inl (fun x9 => nI ((va_up SL (((hoM (kyM (wn w) w) (lN (wo w))) + d9) % 4096) (qk Q + 1)) x9))) := ((congrFun eg_6 _).trans (va_up_ne _ _ (by omega))).trans h138_5
        have hfr_6 : ∀ j : Nat, j ≠ 138 → j ≠ 134 → j ≠ 135 → j ≠ 136 → j ≠ 137 → j ≠ 114 → g_6 j = g j := fun j n0 n1 n2 n3 n4 n5 => ((congrFun eg_6 _).trans (va_up_ne _ _ n5)).trans (hfr_5 j n0 n1 n2 n3 n4)
        refine lv_iconst (v := nI (1)) hx hb dX10_meets_177 (by decide) ?_
        exact rMz S hr hlk (by first | exact Or.inl rfl | exact Or.inr rfl) hP hS ⟨_, _, _, _, _, (ifT hput.2.2), hput.1, (by rw [hput.2.1]; exact h114_6), h134_6, h135_6, h136_6, h137_6, h138_6, (fun j n0 n1 n2 n3 n4 n5 => hfr_6 j (by omega) (by omega) (by omega) (by omega) (by omega) (by omega))⟩ dX10_meets_178
      · skip
        have c_49 := (not_congr (z_le (by omega))).mp c_49
        obtain ⟨m9, hm9⟩ : ∃ m9, SL (((hoM (kyM (wn w) w) (lN (wo w))) + d9) % 4096) = m9 + 1 := ⟨SL (((hoM (kyM (wn w) w) (lN (wo w))) + d9) % 4096) - 1, by omega⟩
        have hm9k : m9 < qk Q := by omega
        have hr9 := hR.2.2.1 m9 hm9k
        have hpn9 : ∀ i, i < wn w → wp (qM Q m9) i < wn w := fun i hi => by have := hr9.1.1.2.1.2.1 i (by rw [hr9.1.2.1]; exact hi); rw [hr9.1.2.1] at this; exact this
        have hp89 : ∀ i, i < wn w → wp (qM Q m9) i < 8 := fun i hi => by have := hpn9 i hi; omega
        have hpq9 := pk_24 hn8 hp89
        have hkq := pk64 (n := wn w) (P := wp (qM Q m9)) (by omega) hn8
        refine lv_aload_n hx hb dX10_meets_52 rfl (lv_at hl 2 rfl) ?_
        refine mg S hK hP (by omega) hM fd_X10_90 rfl dX10_meets_53 ?_
        refine lv_iload hx hb dX10_meets_56 (lv_at hl 0 rfl) ?_
        refine mial S hK hP (by omega) hm5 (vp_in_nI (by omega) (by omega)) dX10_meets_58 ?_
        refine tpi (congrArg ((fun x9 => nI (SL x9))) (nI_clamp (by omega))) ?_
        refine tpi (congrArg nI hm9) ?_
        refine lv_iconst (v := nI (1)) hx hb dX10_meets_59 (by decide) ?_
        refine lv_isub hx hb dX10_meets_60 ?_
        refine tpi (pk_sub (a := m9 + 1) (b := 1) (by omega)) ?_
        refine tpi (by rw [Nat.add_sub_cancel]) ?_
        refine lv_istore (lv' := [(7, .int (nI (m9))), (6, .int (nI (((hoM (kyM (wn w) w) (lN (wo w))) + d9) % 4096))), (3, .int (nI (pk (trn (wn w) (wp w)) (wn w)))), (0, .ref (ad 114)), (1, .int pr), (2, .int ar)]) hx hb dX10_meets_61 hl (by decide) rfl (fun ls hl => ?_)
        refine lv_aload_n hx hb dX10_meets_63 rfl (lv_at hl 3 rfl) ?_
        refine lv_aload_n hx hb dX10_meets_64 rfl (lv_at hl 3 rfl) ?_
        refine mg S hK hP (by omega) hM fd_X10_78 rfl dX10_meets_65 ?_
        refine lv_iload hx hb dX10_meets_68 (lv_at hl 0 rfl) ?_
        refine mial S hK hP (by omega) hm1 (vp_in_nI (by omega) (by omega)) dX10_meets_70 ?_
        refine tpi (congrArg ((fun x9 => nI (MP x9))) (nI_clamp (by omega))) ?_
        refine tpi (congrArg nI hr9.2.1.1) ?_
        refine kVi (As := [.int (nI (pk (wp (qM Q m9)) (wn w)))]) (rest := []) S hK hP (c_X10_turned l D cy ad N g (by omega) (wn w) (wf w) (wh w) (wo w) un la bo tp ft wr0 wa at0 sp tk vl fi nm dp wy st aP aF aH aO ps (qk Q) go vi hM hn4 hn8 (pk (wp (qM Q m9)) (wn w)) hpq9 (wp (qM Q m9)) (fun i hi => pk_nib hp89 hi) hpn9) cv_X10_330 (by omega) hM ⟨_, _, rfl⟩ ⟨rfl, rfl⟩ rfl hl.1 rfl (Nat.le_of_ble_eq_true rfl) ⟨Nat.zero_le _, Nat.zero_le _⟩ dX10_meets_71 (fun r_71 q_71 => ?_)
        subst q_71
        refine lv_iload_n hx hb dX10_meets_74 rfl (lv_at hl 2 rfl) ?_
        refine lv_icmp_ne (tgt := 95) hx hb dX10_meets_75 (by decide) (fun c_75 => ?_) (fun c_75 => ?_)
        · skip
          have c_75 := (not_congr (nI_eq (by omega) (by omega))).mp c_75
          have hsF : stP SL (fun m => kyM (wn w) (qM Q m)) (fun m => lN (wo (qM Q m))) (hoM (kyM (wn w) w) (lN (wo w))) (kyM (wn w) w) (lN (wo w)) d9 = false := stP_f (by rw [hm9]; omega) (by exact Or.inl (by rw [hm9, Nat.add_sub_cancel]; intro z; exact c_75 ((lN_inj (by omega) (by omega)).mp z)))
          have hdl : d9 + 1 ≤ slM SL (fun m => kyM (wn w) (qM Q m)) (fun m => lN (wo (qM Q m))) (kyM (wn w) w) (lN (wo w)) := by rcases Nat.lt_or_ge d9 (slM SL (fun m => kyM (wn w) (qM Q m)) (fun m => lN (wo (qM Q m))) (kyM (wn w) w) (lN (wo w))) with q | q; exact q; (have e := hsl.2.1; rw [show slM SL (fun m => kyM (wn w) (qM Q m)) (fun m => lN (wo (qM Q m))) (kyM (wn w) w) (lN (wo w)) = d9 by omega] at e; rw [e] at hsF; cases hsF)
          refine lv_iload hx hb dX10_meets_95 (lv_at hl 1 rfl) ?_
          refine lv_iconst (v := nI (1)) hx hb dX10_meets_97 (by decide) ?_
          refine lv_iadd hx hb dX10_meets_98 ?_
          refine tpi (nI_add (((hoM (kyM (wn w) w) (lN (wo w))) + d9) % 4096) 1) ?_
          refine lv_sipush (v := nI (4095)) hx hb dX10_meets_99 (by decide) ?_
          refine lv_iand hx hb dX10_meets_102 ?_
          refine tpi (nx_and ((((hoM (kyM (wn w) w) (lN (wo w))) + d9) % 4096) + 1) 4095) ?_
          refine tpi (congrArg nI sl_nx) ?_
          refine lv_istore (lv' := [(6, .int (nI (((hoM (kyM (wn w) w) (lN (wo w))) + (d9 + 1)) % 4096))), (7, .int (nI (m9))), (3, .int (nI (pk (trn (wn w) (wp w)) (wn w)))), (0, .ref (ad 114)), (1, .int pr), (2, .int ar)]) hx hb dX10_meets_103 hl (by decide) rfl (fun ls hl => ?_)
          refine lv_goto (tgt := 42) hx hb dX10_meets_105 (by decide) ?_
          exact ih42 (d9 + 1) hdl (lt_sn hno hsF) (by have := hsl.1; omega) _ (lv_sub hl [0, 2, 3, 4, 5] rfl)
        · skip
          have c_75 := (nI_eq (by omega) (by omega)).mp c_75
          refine lv_aload_n hx hb dX10_meets_78 rfl (lv_at hl 3 rfl) ?_
          refine mg S hK hP (by omega) hM fd_X10_81 rfl dX10_meets_79 ?_
          refine lv_iload hx hb dX10_meets_82 (lv_at hl 0 rfl) ?_
          refine mlal S hK hP (by omega) hm2 (vp_in_nI (by omega) (by omega)) dX10_meets_84 ?_
          refine tpl (congrArg MO9 (nI_clamp (by omega))) ?_
          refine tpl (hr9.2.1.2) ?_
          refine lv_aload_n hx hb dX10_meets_85 rfl (lv_at hl 3 rfl) ?_
          refine mg S hK hP (by omega) hM fd_X10_119 rfl dX10_meets_86 ?_
          refine W.lcmp hx hb dX10_meets_89 ?_
          refine lv_if_ne (tgt := 95) hx hb dX10_meets_90 (by decide) (fun c_90 => ?_) (fun c_90 => ?_)
          · skip
            have c_90 := (not_congr (lgN_eq hr9.1.1.2.2.2.2.1 ho)).mp c_90
            have hsF : stP SL (fun m => kyM (wn w) (qM Q m)) (fun m => lN (wo (qM Q m))) (hoM (kyM (wn w) w) (lN (wo w))) (kyM (wn w) w) (lN (wo w)) d9 = false := stP_f (by rw [hm9]; omega) (by exact Or.inr (by rw [hm9, Nat.add_sub_cancel]; intro z; exact c_90 ((lN_inj hr9.1.1.2.2.2.2.1 ho).mp z)))
            have hdl : d9 + 1 ≤ slM SL (fun m => kyM (wn w) (qM Q m)) (fun m => lN (wo (qM Q m))) (kyM (wn w) w) (lN (wo w)) := by rcases Nat.lt_or_ge d9 (slM SL (fun m => kyM (wn w) (qM Q m)) (fun m => lN (wo (qM Q m))) (kyM (wn w) w) (lN (wo w))) with q | q; exact q; (have e := hsl.2.1; rw [show slM SL (fun m => kyM (wn w) (qM Q m)) (fun m => lN (wo (qM Q m))) (kyM (wn w) w) (lN (wo w)) = d9 by omega] at e; rw [e] at hsF; cases hsF)
            refine lv_iload hx hb dX10_meets_95 (lv_at hl 1 rfl) ?_
            refine lv_iconst (v := nI (1)) hx hb dX10_meets_97 (by decide) ?_
            refine lv_iadd hx hb dX10_meets_98 ?_
            refine tpi (nI_add (((hoM (kyM (wn w) w) (lN (wo w))) + d9) % 4096) 1) ?_
            refine lv_sipush (v := nI (4095)) hx hb dX10_meets_99 (by decide) ?_
            refine lv_iand hx hb dX10_meets_102 ?_
            refine tpi (nx_and ((((hoM (kyM (wn w) w) (lN (wo w))) + d9) % 4096) + 1) 4095) ?_
            refine tpi (congrArg nI sl_nx) ?_
            refine lv_istore (lv' := [(6, .int (nI (((hoM (kyM (wn w) w) (lN (wo w))) + (d9 + 1)) % 4096))), (7, .int (nI (m9))), (3, .int (nI (pk (trn (wn w) (wp w)) (wn w)))), (0, .ref (ad 114)), (1, .int pr), (2, .int ar)]) hx hb dX10_meets_103 hl (by decide) rfl (fun ls hl => ?_)
            refine lv_goto (tgt := 42) hx hb dX10_meets_105 (by decide) ?_
            exact ih42 (d9 + 1) hdl (lt_sn hno hsF) (by have := hsl.1; omega) _ (lv_sub hl [0, 2, 3, 4, 5] rfl)
          · skip
            have c_90 := (lgN_eq hr9.1.1.2.2.2.2.1 ho).mp c_90
            have hMt : isMet Q w = true := decide_eq_true (fs_lt_iff.mpr ⟨m9, hm9k, smW_t.mpr ⟨(kyM_iff hr9.1.1 hw hr9.1.2.1).mpr (congrArg lN c_75), congrArg lN c_90⟩⟩)
            have hmn := mt_no (t := t) (gk := gk) (p := p9) (a := a9) (w := w) (Q := Q) (Or.inl hMt)
            refine lv_iconst (v := nI (0)) hx hb dX10_meets_93 (by decide) ?_
            exact rMz S hr hlk (by first | exact Or.inl rfl | exact Or.inr rfl) hP hS ⟨_, _, _, _, _, (ifF (by rw [hMt]; decide)), (by rw [hmn]; exact hR), (by rw [hmn]; exact hM), hm1, hm2, hm3, hm4, hm5, (fun j n0 n1 n2 n3 n4 n5 => hfr j )⟩ dX10_meets_94
  exact L42 ((4096 - 0) + 1) 0 (Nat.zero_le _) (fun j q => absurd q (Nat.not_lt_zero _)) (Nat.lt_succ_self _) _ (lv_sub hl [0, 2, 3, 4, 5] rfl)

set_option maxHeartbeats 4000000 in
set_option maxRecDepth 100000 in
theorem c_X10_search (l : Launch) (D : va_G) (cy : Nat → ClassId) (ad : Nat → Nat) (N : Nat) (g : Nat → va_E) (hinj : ∀ i j : Nat, i < N → j < N → ad i = ad j → i = j) (hN : 145 ≤ N) (w : WT) (un : Nat) (la : Int32) (bo : Int32) (tp : Nat) (ft : Int32) (wr0 : Nat) (wa : Nat) (at0 : Nat) (sp : Nat) (tk : Nat) (vl : Int32) (fi : Nat) (nm : Nat) (dp : Nat) (wy : Int32) (st : Int32) (aP : Nat) (aF : Nat) (aH : Nat) (aO : Nat) (ps : Nat) (mn : Nat) (go : Int32) (vi : Nat) (hM : g 114 = mob ad (nI (wn w)) (nI (wf w)) (nI (wh w)) (lN (wo w)) (nI (un)) la bo (nI (tp)) ft (nI (wr0)) (nI (wa)) (nI (at0)) (nI (sp)) (nI (tk)) vl (nI (fi)) (nI (nm)) (nI (dp)) wy st (nI (aP)) (nI (aF)) (nI (aH)) (lN aO) (nI (ps)) (nI (mn)) go (nI (vi))) (P : Nat → Nat) (hP9 : g 115 = .inl (cy 1, 8, .inl (fun x9 => nI (P x9)))) (hw : WOK w) (hPw : ∀ i, i < wn w → P i = wp w i) (MP : Nat → Nat) (hm1 : g 134 = .inl (cy 1, 1500, .inl (fun x9 => nI (MP x9)))) (MO9 : Nat → Int64) (hm2 : g 135 = .inl (cy 2, 1500, .inr (.inl MO9))) (MF : Nat → Int32) (hm3 : g 136 = .inl (cy 1, 1500, .inl MF)) (MB : Nat → Int32) (hm4 : g 137 = .inl (cy 1, 1500, .inl MB)) (SL : Nat → Nat) (hm5 : g 138 = .inl (cy 1, 4096, .inl (fun x9 => nI (SL x9)))) (QP : Nat → Nat) (hq1 : g 130 = .inl (cy 1, 6, .inl (fun x9 => nI (QP x9)))) (QF : Nat → Nat) (hq2 : g 131 = .inl (cy 1, 6, .inl (fun x9 => nI (QF x9)))) (QH : Nat → Nat) (hq3 : g 132 = .inl (cy 1, 6, .inl (fun x9 => nI (QH x9)))) (QO : Nat → Int64) (hq4 : g 133 = .inl (cy 2, 6, .inr (.inl QO))) (Po : Nat → WT) (hps : ps ≤ 6) (hPR : PR ps (wn w) QP QF QH QO Po) (k0 : Nat) (hk0b : k0 < ps) : Met l yX10_search (WS yX10_search cX10_search 5 (some .int)) (rmF 3 73) (PP [.ref (ad 114), .int (nI (k0))] D cy ad N g) (QI (fun r g1 => ∃ (P2 : Nat → Nat), ∃ (ov2 : Nat), ∃ (MP2 : Nat → Nat), ∃ (MO2 : Nat → Int64), ∃ (MF2 : Nat → Int32), ∃ (MB2 : Nat → Int32), ∃ (SL2 : Nat → Nat), (r = gfM (srF w (Po k0))) ∧ (MREL (srF w (Po k0)) (wn w) (wf w) (wh w) MP2 MO2 MF2 MB2 SL2) ∧ g1 114 = mob ad (nI (wn w)) (nI (wf w)) (nI (wh w)) (lN ov2) (nI (un)) la bo (nI (tp)) ft (nI (wr0)) (nI (wa)) (nI (at0)) (nI (sp)) (nI (tk)) vl (nI (fi)) (nI (nm)) (nI (dp)) wy st (nI (aP)) (nI (aF)) (nI (aH)) (lN aO) (nI (ps)) (nI (qk (srF w (Po k0)))) go (nI (vi)) ∧ g1 115 = .inl (cy 1, 8, .inl (fun x9 => nI (P2 x9))) ∧ g1 134 = .inl (cy 1, 1500, .inl (fun x9 => nI (MP2 x9))) ∧ g1 135 = .inl (cy 2, 1500, .inr (.inl MO2)) ∧ g1 136 = .inl (cy 1, 1500, .inl MF2) ∧ g1 137 = .inl (cy 1, 1500, .inl MB2) ∧ g1 138 = .inl (cy 1, 4096, .inl (fun x9 => nI (SL2 x9))) ∧ (∀ j, j ≠ 114 → j ≠ 115 → j ≠ 134 → j ≠ 135 → j ≠ 136 → j ≠ 137 → j ≠ 138 → g1 j = g j)) D ad N) 0 0 (AA ad N) := by
  refine mentry (by decide) (Nat.le_of_ble_eq_true rfl) (fun p e s m below meth c ls S hr hlk hnm hP hK hl => ?_)
  have S : CallFix p m c cX10_search 5 s _ wsL_law RX10 := S
  have hx := S.1
  have hb := S.2.1
  have hl : lv_has ls 5 [(0, .ref (ad 114)), (1, .int (nI (k0)))] := hl
  have hI : MD (AA ad N) ad N := MD.in hinj
  have hS : va_S (AA ad N) s.heap s.heap [] := va_S.rf
  have hfr : ∀ j : Nat, g j = g j := fun _ => rfl
  have hn4 := hw.1.1
  have hn8 := hw.1.2
  have hpm := perm_P hw hPw
  have hf := lt256 hw.2.2.1 hn8
  have hh := lt256 hw.2.2.2.1 hn8
  have ho := hw.2.2.2.2.1
  have hKq := hPR k0 hk0b
  have hpq : ∀ i, i < wn w → wp (Po k0) i < wn w := fun i hi => by have := hKq.1.2.1.2.1 i (by rw [hKq.2.1]; exact hi); rw [hKq.2.1] at this; exact this
  have hpq8 : ∀ i, i < wn w → wp (Po k0) i < 8 := fun i hi => by have := hpq i hi; omega
  have hpk2 := pk_24 hn8 hpq8
  have hv8 := hKq.1.1.2
  have hf2 := lt256 hKq.1.2.2.1 hv8
  have hh2 := lt256 hKq.1.2.2.2.1 hv8
  have ho2 := hKq.1.2.2.2.2.1
  refine lv_iconst (v := nI (0)) hx hb dX10_search_0 (by decide) ?_
  refine lv_istore_n (lv' := [(2, .int (nI (0))), (0, .ref (ad 114)), (1, .int (nI (k0)))]) hx hb dX10_search_1 rfl hl (by decide) rfl (fun ls hl => ?_)
  have L2 : ∀ (fu : Nat) (s9 : Nat) (SL1 : Nat → Nat), (s9 ≤ 4096) → (∀ j, j < s9 → SL1 j = 0) → (4096 - s9) < fu → ∀ (g_1 : Nat → va_E) (H : Heap) (locs : List Loc), g_1 114 = mob ad (nI (wn w)) (nI (wf w)) (nI (wh w)) (lN (wo w)) (nI (un)) la bo (nI (tp)) ft (nI (wr0)) (nI (wa)) (nI (at0)) (nI (sp)) (nI (tk)) vl (nI (fi)) (nI (nm)) (nI (dp)) wy st (nI (aP)) (nI (aF)) (nI (aH)) (lN aO) (nI (ps)) (nI (mn)) go (nI (vi)) → g_1 138 = .inl (cy 1, 4096, .inl (fun x9 => nI (SL1 x9))) → (∀ j : Nat, j ≠ 114 → j ≠ 138 → g_1 j = g j) → MM D ad N g_1 H → va_S (AA ad N) s.heap H locs → ∀ (ls : Array Slot), lv_has ls 5 [(2, .int (nI (s9))), (0, .ref (ad 114)), (1, .int (nI (k0)))] → W p l e (rmF 3 73) s m [.ref (ad 114), .int (nI (k0))].toArray below meth c H locs 0 0 (MQ below (QI (fun r g1 => ∃ (P2 : Nat → Nat), ∃ (ov2 : Nat), ∃ (MP2 : Nat → Nat), ∃ (MO2 : Nat → Int64), ∃ (MF2 : Nat → Int32), ∃ (MB2 : Nat → Int32), ∃ (SL2 : Nat → Nat), (r = gfM (srF w (Po k0))) ∧ (MREL (srF w (Po k0)) (wn w) (wf w) (wh w) MP2 MO2 MF2 MB2 SL2) ∧ g1 114 = mob ad (nI (wn w)) (nI (wf w)) (nI (wh w)) (lN ov2) (nI (un)) la bo (nI (tp)) ft (nI (wr0)) (nI (wa)) (nI (at0)) (nI (sp)) (nI (tk)) vl (nI (fi)) (nI (nm)) (nI (dp)) wy st (nI (aP)) (nI (aF)) (nI (aH)) (lN aO) (nI (ps)) (nI (qk (srF w (Po k0)))) go (nI (vi)) ∧ g1 115 = .inl (cy 1, 8, .inl (fun x9 => nI (P2 x9))) ∧ g1 134 = .inl (cy 1, 1500, .inl (fun x9 => nI (MP2 x9))) ∧ g1 135 = .inl (cy 2, 1500, .inr (.inl MO2)) ∧ g1 136 = .inl (cy 1, 1500, .inl MF2) ∧ g1 137 = .inl (cy 1, 1500, .inl MB2) ∧ g1 138 = .inl (cy 1, 4096, .inl (fun x9 => nI (SL2 x9))) ∧ (∀ j, j ≠ 114 → j ≠ 115 → j ≠ 134 → j ≠ 135 → j ≠ 136 → j ≠ 137 → j ≠ 138 → g1 j = g j)) D ad N) [.ref (ad 114), .int (nI (k0))].toArray s 0 0 (AA ad N)) (F0 m 2 ls []) := by
    intro fu
    induction fu with
    | zero => intro s9 SL1 hs9 hSL1 hms g_1 H locs h114_1 h138_1 hfr_1 hP hS ls hl; exact absurd hms (Nat.not_lt_zero _)
    | succ fu ih2 =>
      intro s9 SL1 hs9 hSL1 hms g_1 H locs h114_1 h138_1 hfr_1 hP hS ls hl
      have h115_1 : g_1 115 = .inl (cy 1, 8, .inl (fun x9 => nI (P x9))) := (hfr_1 115 (by omega) (by omega)).trans hP9
      have h134_1 : g_1 134 = .inl (cy 1, 1500, .inl (fun x9 => nI (MP x9))) := (hfr_1 134 (by omega) (by omega)).trans hm1
      have h135_1 : g_1 135 = .inl (cy 2, 1500, .inr (.inl MO9)) := (hfr_1 135 (by omega) (by omega)).trans hm2
      have h136_1 : g_1 136 = .inl (cy 1, 1500, .inl MF) := (hfr_1 136 (by omega) (by omega)).trans hm3
      have h137_1 : g_1 137 = .inl (cy 1, 1500, .inl MB) := (hfr_1 137 (by omega) (by omega)).trans hm4
      have h130_1 : g_1 130 = .inl (cy 1, 6, .inl (fun x9 => nI (QP x9))) := (hfr_1 130 (by omega) (by omega)).trans hq1
      have h131_1 : g_1 131 = .inl (cy 1, 6, .inl (fun x9 => nI (QF x9))) := (hfr_1 131 (by omega) (by omega)).trans hq2
      have h132_1 : g_1 132 = .inl (cy 1, 6, .inl (fun x9 => nI (QH x9))) := (hfr_1 132 (by omega) (by omega)).trans hq3
      have h133_1 : g_1 133 = .inl (cy 2, 6, .inr (.inl QO)) := (hfr_1 133 (by omega) (by omega)).trans hq4
      refine lv_iload_n hx hb dX10_search_2 rfl (lv_at hl 0 rfl) ?_
      refine lv_sipush (v := nI (4096)) hx hb dX10_search_3 (by decide) ?_
      refine lv_icmp_ge (tgt := 22) hx hb dX10_search_6 (by decide) (fun c_6 => ?_) (fun c_6 => ?_)
      · skip
        have c_6 := (nI_leI (by omega) (by omega)).mp c_6
        refine lv_aload_n hx hb dX10_search_22 rfl (lv_at hl 1 rfl) ?_
        refine lv_iconst (v := nI (0)) hx hb dX10_search_23 (by decide) ?_
        refine mp S hK hP hI hS (by omega) h114_1 fd_X10_342 rfl rfl (Nat.le_of_ble_eq_true rfl) dX10_search_24 (fun g_2 H locs eg_2 hP hS => ?_)
        have h114_2 : g_2 114 = mob ad (nI (wn w)) (nI (wf w)) (nI (wh w)) (lN (wo w)) (nI (un)) la bo (nI (tp)) ft (nI (wr0)) (nI (wa)) (nI (at0)) (nI (sp)) (nI (tk)) vl (nI (fi)) (nI (nm)) (nI (dp)) wy st (nI (aP)) (nI (aF)) (nI (aH)) (lN aO) (nI (ps)) (nI (0)) go (nI (vi)) := by rw [eg_2, va_up_self]; exact rfl
        have h115_2 : g_2 115 = .inl (cy 1, 8, .inl (fun x9 => nI (P x9))) := ((congrFun eg_2 _).trans (va_up_ne _ _ (by omega))).trans h115_1
        have h134_2 : g_2 134 = .inl (cy 1, 1500, .inl (fun x9 => nI (MP x9))) := ((congrFun eg_2 _).trans (va_up_ne _ _ (by omega))).trans h134_1
        have h135_2 : g_2 135 = .inl (cy 2, 1500, .inr (.inl MO9)) := ((congrFun eg_2 _).trans (va_up_ne _ _ (by omega))).trans h135_1
        have h136_2 : g_2 136 = .inl (cy 1, 1500, .inl MF) := ((congrFun eg_2 _).trans (va_up_ne _ _ (by omega))).trans h136_1
        have h137_2 : g_2 137 = .inl (cy 1, 1500, .inl MB) := ((congrFun eg_2 _).trans (va_up_ne _ _ (by omega))).trans h137_1
        have h138_2 : g_2 138 = .inl (cy 1, 4096, .inl (fun x9 => nI (SL1 x9))) := ((congrFun eg_2 _).trans (va_up_ne _ _ (by omega))).trans h138_1
        have h130_2 : g_2 130 = .inl (cy 1, 6, .inl (fun x9 => nI (QP x9))) := ((congrFun eg_2 _).trans (va_up_ne _ _ (by omega))).trans h130_1
        have h131_2 : g_2 131 = .inl (cy 1, 6, .inl (fun x9 => nI (QF x9))) := ((congrFun eg_2 _).trans (va_up_ne _ _ (by omega))).trans h131_1
        have h132_2 : g_2 132 = .inl (cy 1, 6, .inl (fun x9 => nI (QH x9))) := ((congrFun eg_2 _).trans (va_up_ne _ _ (by omega))).trans h132_1
        have h133_2 : g_2 133 = .inl (cy 2, 6, .inr (.inl QO)) := ((congrFun eg_2 _).trans (va_up_ne _ _ (by omega))).trans h133_1
        have hfr_2 : ∀ j : Nat, j ≠ 114 → j ≠ 138 → g_2 j = g j := fun j n0 n1 => ((congrFun eg_2 _).trans (va_up_ne _ _ n0)).trans (hfr_1 j n0 n1)
        refine lv_aload_n hx hb dX10_search_27 rfl (lv_at hl 1 rfl) ?_
        refine lv_bipush (v := (-4)) hx hb dX10_search_28 (by decide) ?_
        refine lv_bipush (v := (-4)) hx hb dX10_search_30 (by decide) ?_
        refine kMi (As := [.int (-4), .int (-4)]) (rest := []) S hK hP hS (fun _ h => h) (c_X10_meets l D cy ad N g_2 hinj (Q0 w) (by omega) w un la bo tp ft wr0 wa at0 sp tk vl fi nm dp wy st aP aF aH aO ps go vi h114_2 P h115_2 hw hPw MP h134_2 MO9 h135_2 MF h136_2 MB h137_2 SL1 h138_2 ((Po k0)) ((kyW (Po k0))) 0 0 (-4) (-4) (mrel_0 (fun s hs => hSL1 s (by omega))) (show 0 < 1500 by decide) (if_pos rfl).symm (if_pos rfl).symm (Or.inl rfl) (by decide)) cv_X10_345 (by omega) h114_2 ⟨_, _, rfl⟩ ⟨rfl, rfl⟩ rfl hl.1 rfl (Nat.le_of_ble_eq_true rfl) ⟨Nat.zero_le _, Nat.zero_le _⟩ dX10_search_32 (fun r_32 g_3 H locs q_3 hP hS => ?_)
        obtain ⟨MP2_3, MO2_3, MF2_3, MB2_3, SL2_3, q_32, hR2_3, h114_3, h134_3, h135_3, h136_3, h137_3, h138_3, f_3⟩ := q_3
        subst q_32
        have h115_3 : g_3 115 = .inl (cy 1, 8, .inl (fun x9 => nI (P x9))) := (f_3 115 (by omega) (by omega) (by omega) (by omega) (by omega) (by omega)).trans h115_2
        have h130_3 : g_3 130 = .inl (cy 1, 6, .inl (fun x9 => nI (QP x9))) := (f_3 130 (by omega) (by omega) (by omega) (by omega) (by omega) (by omega)).trans h130_2
        have h131_3 : g_3 131 = .inl (cy 1, 6, .inl (fun x9 => nI (QF x9))) := (f_3 131 (by omega) (by omega) (by omega) (by omega) (by omega) (by omega)).trans h131_2
        have h132_3 : g_3 132 = .inl (cy 1, 6, .inl (fun x9 => nI (QH x9))) := (f_3 132 (by omega) (by omega) (by omega) (by omega) (by omega) (by omega)).trans h132_2
        have h133_3 : g_3 133 = .inl (cy 2, 6, .inr (.inl QO)) := (f_3 133 (by omega) (by omega) (by omega) (by omega) (by omega) (by omega)).trans h133_2
        have hfr_3 : ∀ j : Nat, j ≠ 114 → j ≠ 138 → j ≠ 134 → j ≠ 135 → j ≠ 136 → j ≠ 137 → g_3 j = g j := fun j n0 n1 n2 n3 n4 n5 => (f_3 j n0 n2 n3 n4 n5 n1).trans (hfr_2 j n0 n1)
        have hR1 := hR2_3
        refine lv_istore_n (lv' := [(2, .int (if (isMet (Q0 w) w = false) then 1 else 0)), (0, .ref (ad 114)), (1, .int (nI (k0)))]) hx hb dX10_search_35 rfl hl (by decide) rfl (fun ls hl => ?_)
        refine lv_iload_n hx hb dX10_search_36 rfl (lv_at hl 0 rfl) ?_
        refine lv_if_eq (tgt := 50) hx hb dX10_search_37 (by decide) (fun c_37 => ?_) (fun c_37 => ?_)
        · skip
          have c_37 := bz_eq.mp c_37
          exact absurd rfl c_37
        · skip
          have c_37 := bz_ne.mp c_37
          refine lv_aload_n hx hb dX10_search_40 rfl (lv_at hl 1 rfl) ?_
          refine lv_iload_n hx hb dX10_search_41 rfl (lv_at hl 2 rfl) ?_
          refine kVi (As := [.int (nI (k0))]) (rest := []) S hK hP (c_X10_isAlike l D cy ad N g_3 (by omega) w un la bo tp ft wr0 wa at0 sp tk vl fi nm dp wy st aP aF aH aO ps (qk (mt (Q0 w) w ((Po k0)) ((kyW (Po k0))) 0 0)) go vi h114_3 P h115_3 hw hPw QP h130_3 QF h131_3 QH h132_3 QO h133_3 Po hps hPR k0 hk0b) cv_X10_333 (by omega) h114_3 ⟨_, _, rfl⟩ ⟨rfl, rfl⟩ rfl hl.1 rfl (Nat.le_of_ble_eq_true rfl) ⟨Nat.zero_le _, Nat.zero_le _⟩ dX10_search_42 (fun r_42 q_42 => ?_)
          subst q_42
          refine lv_if_eq (tgt := 50) hx hb dX10_search_45 (by decide) (fun c_45 => ?_) (fun c_45 => ?_)
          · skip
            have c_45 := bz_eq.mp c_45
            have hgB := bF (fun q => c_45 ((gB_al hw hKq.1 hKq.2.1).mp q))
            have hq0 := mt_qg (t := (Po k0)) (gk := (kyW (Po k0))) (p := 0) (a := 0) c_37 (show qk (Q0 w) < 1500 from (by decide : 0 < 1500))
            rw [hgB] at hq0
            have hk0q := mt_k (t := (Po k0)) (gk := (kyW (Po k0))) (p := 0) (a := 0) (show ¬ isMet (Q0 w) w = true from (by rw [c_37]; decide)) (show qk (Q0 w) < 1500 from (by decide : 0 < 1500))
            refine lv_iconst (v := nI (0)) hx hb dX10_search_50 (by decide) ?_
            refine lv_istore_n (lv' := [(3, .int (nI (0))), (2, .int (if (isMet (Q0 w) w = false) then 1 else 0)), (0, .ref (ad 114)), (1, .int (nI (k0)))]) hx hb dX10_search_51 rfl hl (by decide) rfl (fun ls hl => ?_)
            have L52 : ∀ (fu : Nat) (m9 : Nat) (ov3 : Nat) (P3 : Nat → Nat) (MP3 : Nat → Nat) (MO3 : Nat → Int64) (MF3 MB3 : Nat → Int32) (SL3 : Nat → Nat), (m9 ≤ qk (srS (Po k0) (kyW (Po k0)) w m9)) → (gOn (srS (Po k0) (kyW (Po k0)) w m9) = true) → (MREL (srS (Po k0) (kyW (Po k0)) w m9) (wn w) (wf w) (wh w) MP3 MO3 MF3 MB3 SL3) → (1500 - m9) < fu → ∀ (g_4 : Nat → va_E) (H : Heap) (locs : List Loc), g_4 114 = mob ad (nI (wn w)) (nI (wf w)) (nI (wh w)) (lN ov3) (nI (un)) la bo (nI (tp)) ft (nI (wr0)) (nI (wa)) (nI (at0)) (nI (sp)) (nI (tk)) vl (nI (fi)) (nI (nm)) (nI (dp)) wy st (nI (aP)) (nI (aF)) (nI (aH)) (lN aO) (nI (ps)) (nI (qk (srS (Po k0) (kyW (Po k0)) w m9))) go (nI (vi)) → g_4 115 = .inl (cy 1, 8, .inl (fun x9 => nI (P3 x9))) → g_4 134 = .inl (cy 1, 1500, .inl (fun x9 => nI (MP3 x9))) → g_4 135 = .inl (cy 2, 1500, .inr (.inl MO3)) → g_4 136 = .inl (cy 1, 1500, .inl MF3) → g_4 137 = .inl (cy 1, 1500, .inl MB3) → g_4 138 = .inl (cy 1, 4096, .inl (fun x9 => nI (SL3 x9))) → (∀ j : Nat, j ≠ 114 → j ≠ 138 → j ≠ 134 → j ≠ 135 → j ≠ 136 → j ≠ 137 → j ≠ 115 → g_4 j = g j) → MM D ad N g_4 H → va_S (AA ad N) s.heap H locs → ∀ (ls : Array Slot), lv_has ls 5 [(3, .int (nI (m9))), (0, .ref (ad 114)), (1, .int (nI (k0)))] → W p l e (rmF 3 73) s m [.ref (ad 114), .int (nI (k0))].toArray below meth c H locs 0 0 (MQ below (QI (fun r g1 => ∃ (P2 : Nat → Nat), ∃ (ov2 : Nat), ∃ (MP2 : Nat → Nat), ∃ (MO2 : Nat → Int64), ∃ (MF2 : Nat → Int32), ∃ (MB2 : Nat → Int32), ∃ (SL2 : Nat → Nat), (r = gfM (srF w (Po k0))) ∧ (MREL (srF w (Po k0)) (wn w) (wf w) (wh w) MP2 MO2 MF2 MB2 SL2) ∧ g1 114 = mob ad (nI (wn w)) (nI (wf w)) (nI (wh w)) (lN ov2) (nI (un)) la bo (nI (tp)) ft (nI (wr0)) (nI (wa)) (nI (at0)) (nI (sp)) (nI (tk)) vl (nI (fi)) (nI (nm)) (nI (dp)) wy st (nI (aP)) (nI (aF)) (nI (aH)) (lN aO) (nI (ps)) (nI (qk (srF w (Po k0)))) go (nI (vi)) ∧ g1 115 = .inl (cy 1, 8, .inl (fun x9 => nI (P2 x9))) ∧ g1 134 = .inl (cy 1, 1500, .inl (fun x9 => nI (MP2 x9))) ∧ g1 135 = .inl (cy 2, 1500, .inr (.inl MO2)) ∧ g1 136 = .inl (cy 1, 1500, .inl MF2) ∧ g1 137 = .inl (cy 1, 1500, .inl MB2) ∧ g1 138 = .inl (cy 1, 4096, .inl (fun x9 => nI (SL2 x9))) ∧ (∀ j, j ≠ 114 → j ≠ 115 → j ≠ 134 → j ≠ 135 → j ≠ 136 → j ≠ 137 → j ≠ 138 → g1 j = g j)) D ad N) [.ref (ad 114), .int (nI (k0))].toArray s 0 0 (AA ad N)) (F0 m 52 ls []) := by
              intro fu
              induction fu with
              | zero => intro m9 ov3 P3 MP3 MO3 MF3 MB3 SL3 hm9 hg3 hR3 hms g_4 H locs h114_4 h115_4 h134_4 h135_4 h136_4 h137_4 h138_4 hfr_4 hP hS ls hl; exact absurd hms (Nat.not_lt_zero _)
              | succ fu ih52 =>
                intro m9 ov3 P3 MP3 MO3 MF3 MB3 SL3 hm9 hg3 hR3 hms g_4 H locs h114_4 h115_4 h134_4 h135_4 h136_4 h137_4 h138_4 hfr_4 hP hS ls hl
                have h130_4 : g_4 130 = .inl (cy 1, 6, .inl (fun x9 => nI (QP x9))) := (hfr_4 130 (by omega) (by omega) (by omega) (by omega) (by omega) (by omega) (by omega)).trans hq1
                have h131_4 : g_4 131 = .inl (cy 1, 6, .inl (fun x9 => nI (QF x9))) := (hfr_4 131 (by omega) (by omega) (by omega) (by omega) (by omega) (by omega) (by omega)).trans hq2
                have h132_4 : g_4 132 = .inl (cy 1, 6, .inl (fun x9 => nI (QH x9))) := (hfr_4 132 (by omega) (by omega) (by omega) (by omega) (by omega) (by omega) (by omega)).trans hq3
                have h133_4 : g_4 133 = .inl (cy 2, 6, .inr (.inl QO)) := (hfr_4 133 (by omega) (by omega) (by omega) (by omega) (by omega) (by omega) (by omega)).trans hq4
                have hb15 : qk (srS (Po k0) (kyW (Po k0)) w m9) ≤ 1500 := hR3.1
                refine lv_iload_n hx hb dX10_search_52 rfl (lv_at hl 0 rfl) ?_
                refine lv_aload_n hx hb dX10_search_53 rfl (lv_at hl 1 rfl) ?_
                refine mg S hK hP (by omega) h114_4 fd_X10_342 rfl dX10_search_54 ?_
                refine lv_icmp_ge (tgt := 169) hx hb dX10_search_57 (by decide) (fun c_57 => ?_) (fun c_57 => ?_)
                · skip
                  have c_57 := (nI_leI (by omega) (by omega)).mp c_57
                  have hE : (srF w (Po k0)) = (srS (Po k0) (kyW (Po k0)) w m9) := srF_e (by have := hR3.1; omega) (Or.inr (fun q => by have := q.1; omega))
                  refine lv_bipush (v := (-4)) hx hb dX10_search_169 (by decide) ?_
                  have hg3q := gOn_t.mp hg3
                  exact rMi S hr hlk hP hS ⟨_, ov3, _, _, _, _, _, (by rw [hE]; unfold gfM; rw [if_pos hg3q.1, if_neg (by omega)]), (by rw [hE]; exact hR3), (by rw [hE]; exact h114_4), h115_4, h134_4, h135_4, h136_4, h137_4, h138_4, (fun j n0 n1 n2 n3 n4 n5 n6 => hfr_4 j (by omega) (by omega) (by omega) (by omega) (by omega) (by omega) (by omega))⟩ dX10_search_171
                · skip
                  have c_57 := (not_congr (nI_leI (by omega) (by omega))).mp c_57
                  refine lv_iconst (v := nI (0)) hx hb dX10_search_60 (by decide) ?_
                  refine lv_istore (lv' := [(4, .int (nI (0))), (3, .int (nI (m9))), (0, .ref (ad 114)), (1, .int (nI (k0)))]) hx hb dX10_search_61 hl (by decide) rfl (fun ls hl => ?_)
                  have L63 : ∀ (fu : Nat) (a9 : Nat) (ov4 : Nat) (P4 : Nat → Nat) (MP4 : Nat → Nat) (MO4 : Nat → Int64) (MF4 MB4 : Nat → Int32) (SL4 : Nat → Nat), (a9 ≤ 2 * wn w) → (gOn (aS (Po k0) (kyW (Po k0)) (srS (Po k0) (kyW (Po k0)) w m9) m9 a9) = true) → (MREL (aS (Po k0) (kyW (Po k0)) (srS (Po k0) (kyW (Po k0)) w m9) m9 a9) (wn w) (wf w) (wh w) MP4 MO4 MF4 MB4 SL4) → (2 * wn w - a9) < fu → ∀ (g_5 : Nat → va_E) (H : Heap) (locs : List Loc), g_5 114 = mob ad (nI (wn w)) (nI (wf w)) (nI (wh w)) (lN ov4) (nI (un)) la bo (nI (tp)) ft (nI (wr0)) (nI (wa)) (nI (at0)) (nI (sp)) (nI (tk)) vl (nI (fi)) (nI (nm)) (nI (dp)) wy st (nI (aP)) (nI (aF)) (nI (aH)) (lN aO) (nI (ps)) (nI (qk (aS (Po k0) (kyW (Po k0)) (srS (Po k0) (kyW (Po k0)) w m9) m9 a9))) go (nI (vi)) → g_5 115 = .inl (cy 1, 8, .inl (fun x9 => nI (P4 x9))) → g_5 134 = .inl (cy 1, 1500, .inl (fun x9 => nI (MP4 x9))) → g_5 135 = .inl (cy 2, 1500, .inr (.inl MO4)) → g_5 136 = .inl (cy 1, 1500, .inl MF4) → g_5 137 = .inl (cy 1, 1500, .inl MB4) → g_5 138 = .inl (cy 1, 4096, .inl (fun x9 => nI (SL4 x9))) → (∀ j : Nat, j ≠ 114 → j ≠ 138 → j ≠ 134 → j ≠ 135 → j ≠ 136 → j ≠ 137 → j ≠ 115 → g_5 j = g j) → MM D ad N g_5 H → va_S (AA ad N) s.heap H locs → ∀ (ls : Array Slot), lv_has ls 5 [(4, .int (nI (a9))), (3, .int (nI (m9))), (0, .ref (ad 114)), (1, .int (nI (k0)))] → W p l e (rmF 3 73) s m [.ref (ad 114), .int (nI (k0))].toArray below meth c H locs 0 0 (MQ below (QI (fun r g1 => ∃ (P2 : Nat → Nat), ∃ (ov2 : Nat), ∃ (MP2 : Nat → Nat), ∃ (MO2 : Nat → Int64), ∃ (MF2 : Nat → Int32), ∃ (MB2 : Nat → Int32), ∃ (SL2 : Nat → Nat), (r = gfM (srF w (Po k0))) ∧ (MREL (srF w (Po k0)) (wn w) (wf w) (wh w) MP2 MO2 MF2 MB2 SL2) ∧ g1 114 = mob ad (nI (wn w)) (nI (wf w)) (nI (wh w)) (lN ov2) (nI (un)) la bo (nI (tp)) ft (nI (wr0)) (nI (wa)) (nI (at0)) (nI (sp)) (nI (tk)) vl (nI (fi)) (nI (nm)) (nI (dp)) wy st (nI (aP)) (nI (aF)) (nI (aH)) (lN aO) (nI (ps)) (nI (qk (srF w (Po k0)))) go (nI (vi)) ∧ g1 115 = .inl (cy 1, 8, .inl (fun x9 => nI (P2 x9))) ∧ g1 134 = .inl (cy 1, 1500, .inl (fun x9 => nI (MP2 x9))) ∧ g1 135 = .inl (cy 2, 1500, .inr (.inl MO2)) ∧ g1 136 = .inl (cy 1, 1500, .inl MF2) ∧ g1 137 = .inl (cy 1, 1500, .inl MB2) ∧ g1 138 = .inl (cy 1, 4096, .inl (fun x9 => nI (SL2 x9))) ∧ (∀ j, j ≠ 114 → j ≠ 115 → j ≠ 134 → j ≠ 135 → j ≠ 136 → j ≠ 137 → j ≠ 138 → g1 j = g j)) D ad N) [.ref (ad 114), .int (nI (k0))].toArray s 0 0 (AA ad N)) (F0 m 63 ls []) := by
                    intro fu
                    induction fu with
                    | zero => intro a9 ov4 P4 MP4 MO4 MF4 MB4 SL4 ha9 hg4 hR4 hms g_5 H locs h114_5 h115_5 h134_5 h135_5 h136_5 h137_5 h138_5 hfr_5 hP hS ls hl; exact absurd hms (Nat.not_lt_zero _)
                    | succ fu ih63 =>
                      intro a9 ov4 P4 MP4 MO4 MF4 MB4 SL4 ha9 hg4 hR4 hms g_5 H locs h114_5 h115_5 h134_5 h135_5 h136_5 h137_5 h138_5 hfr_5 hP hS ls hl
                      have h130_5 : g_5 130 = .inl (cy 1, 6, .inl (fun x9 => nI (QP x9))) := (hfr_5 130 (by omega) (by omega) (by omega) (by omega) (by omega) (by omega) (by omega)).trans hq1
                      have h131_5 : g_5 131 = .inl (cy 1, 6, .inl (fun x9 => nI (QF x9))) := (hfr_5 131 (by omega) (by omega) (by omega) (by omega) (by omega) (by omega) (by omega)).trans hq2
                      have h132_5 : g_5 132 = .inl (cy 1, 6, .inl (fun x9 => nI (QH x9))) := (hfr_5 132 (by omega) (by omega) (by omega) (by omega) (by omega) (by omega) (by omega)).trans hq3
                      have h133_5 : g_5 133 = .inl (cy 2, 6, .inr (.inl QO)) := (hfr_5 133 (by omega) (by omega) (by omega) (by omega) (by omega) (by omega) (by omega)).trans hq4
                      refine lv_iload hx hb dX10_search_63 (lv_at hl 0 rfl) ?_
                      refine lv_iconst (v := nI (2)) hx hb dX10_search_65 (by decide) ?_
                      refine lv_aload_n hx hb dX10_search_66 rfl (lv_at hl 2 rfl) ?_
                      refine mg S hK hP (by omega) h114_5 fd_X10_7 rfl dX10_search_67 ?_
                      refine lv_imul hx hb dX10_search_70 ?_
                      refine tpi (pk_mul 2 (wn w)) ?_
                      refine lv_icmp_ge (tgt := 163) hx hb dX10_search_71 (by decide) (fun c_71 => ?_) (fun c_71 => ?_)
                      · skip
                        have c_71 := (nI_leI (by omega) (by omega)).mp c_71
                        refine lv_iinc (v := nI (m9 + 1)) (lv' := [(3, .int (nI (m9 + 1))), (4, .int (nI (a9))), (0, .ref (ad 114)), (1, .int (nI (k0)))]) hx hb dX10_search_163 hl (k := 1) rfl (by exact nI_add m9 1) (by decide) rfl (fun ls hl => ?_)
                        refine lv_goto (tgt := 52) hx hb dX10_search_166 (by decide) ?_
                        exact ih52 (m9 + 1) ov4 P4 MP4 MO4 MF4 MB4 SL4 (by rw [srS_yes (show m9 < qk (srS (Po k0) (kyW (Po k0)) w m9) by omega) hg3, show 2 * wn w = a9 by omega]; have := (aS_keep (t := (Po k0)) (gk := (kyW (Po k0))) (Q := (srS (Po k0) (kyW (Po k0)) w m9)) (m := m9) a9).1; omega) (by rw [srS_yes (show m9 < qk (srS (Po k0) (kyW (Po k0)) w m9) by omega) hg3, show 2 * wn w = a9 by omega]; exact hg4) (by rw [srS_yes (show m9 < qk (srS (Po k0) (kyW (Po k0)) w m9) by omega) hg3, show 2 * wn w = a9 by omega]; exact hR4) (by have := hR3.1; omega) g_5 _ _ (by rw [srS_yes (show m9 < qk (srS (Po k0) (kyW (Po k0)) w m9) by omega) hg3, show 2 * wn w = a9 by omega]; exact h114_5) h115_5 h134_5 h135_5 h136_5 h137_5 h138_5 hfr_5 hP hS _ (lv_sub hl [0, 2, 3] rfl)
                      · skip
                        have c_71 := (not_congr (nI_leI (by omega) (by omega))).mp c_71
                        have hm9q : m9 < qk (srS (Po k0) (kyW (Po k0)) w m9) := by omega
                        have hkp := aS_keep (t := (Po k0)) (gk := (kyW (Po k0))) (Q := (srS (Po k0) (kyW (Po k0)) w m9)) (m := m9) a9
                        have hrv := hR4.2.2.1 m9 (by omega)
                        rw [hkp.2 m9 hm9q] at hrv
                        have hVk := hrv.1.1
                        have hVn : wn (qM (srS (Po k0) (kyW (Po k0)) w m9) m9) = wn w := hrv.1.2.1
                        have hVf : wf (qM (srS (Po k0) (kyW (Po k0)) w m9) m9) = wf w := hrv.1.2.2.1
                        have hVh : wh (qM (srS (Po k0) (kyW (Po k0)) w m9) m9) = wh w := hrv.1.2.2.2
                        have hVp : ∀ i, i < wn w → wp (qM (srS (Po k0) (kyW (Po k0)) w m9) m9) i < 8 := fun i hi => by have h1 := hVk.2.1.2.1 i (by rw [hVn]; exact hi); have h2 := hVk.1.2; omega
                        have hVpk := pk_24 hn8 hVp
                        have hVo := hVk.2.2.2.2.1
                        have hPX : ∀ i, i < wn (qM (srS (Po k0) (kyW (Po k0)) w m9) m9) → (upk (pk (wp (qM (srS (Po k0) (kyW (Po k0)) w m9) m9)) (wn w)) P4 (wn w)) i = wp (qM (srS (Po k0) (kyW (Po k0)) w m9) m9) i := fun i hi => upk_pk hVp i (by rw [← hVn]; exact hi)
                        have hpX := perm_P hVk hPX
                        rw [hVn] at hpX
                        have hcf := chg_fh (w := (qM (srS (Po k0) (kyW (Po k0)) w m9) m9)) (a := a9) hVk (by rw [hVn]; omega)
                        have hWn : wn (chg (qM (srS (Po k0) (kyW (Po k0)) w m9) m9) (nI (a9 % 2)) (nI (a9 / 2))).2 = wn w := hcf.2.1.trans hVn
                        have hWf : wf (chg (qM (srS (Po k0) (kyW (Po k0)) w m9) m9) (nI (a9 % 2)) (nI (a9 / 2))).2 = wf w := hcf.2.2.1.trans hVf
                        have hWh : wh (chg (qM (srS (Po k0) (kyW (Po k0)) w m9) m9) (nI (a9 % 2)) (nI (a9 / 2))).2 = wh w := hcf.2.2.2.trans hVh
                        refine lv_aload_n hx hb dX10_search_74 rfl (lv_at hl 2 rfl) ?_
                        refine lv_aload_n hx hb dX10_search_75 rfl (lv_at hl 2 rfl) ?_
                        refine mg S hK hP (by omega) h114_5 fd_X10_78 rfl dX10_search_76 ?_
                        refine lv_iload_n hx hb dX10_search_79 rfl (lv_at hl 1 rfl) ?_
                        refine mial S hK hP (by omega) h134_5 (vp_in_nI (by omega) (by omega)) dX10_search_80 ?_
                        refine tpi (congrArg ((fun x9 => nI (MP4 x9))) (nI_clamp (by omega))) ?_
                        refine tpi (congrArg nI hrv.2.1.1) ?_
                        refine kMv (As := [.int (nI (pk (wp (qM (srS (Po k0) (kyW (Po k0)) w m9) m9)) (wn w)))]) (rest := []) S hK hP hS (fun _ h => h) (c_X10_unpack l D cy ad N g_5 hinj (by omega) (wn w) (wf w) (wh w) ov4 un la bo tp ft wr0 wa at0 sp tk vl fi nm dp wy st aP aF aH aO ps (qk (aS (Po k0) (kyW (Po k0)) (srS (Po k0) (kyW (Po k0)) w m9) m9 a9)) go vi h114_5 hn4 hn8 P4 h115_5 (pk (wp (qM (srS (Po k0) (kyW (Po k0)) w m9) m9)) (wn w)) hVpk) cv_X10_180 (by omega) h114_5 ⟨_, _, rfl⟩ ⟨rfl, rfl⟩ rfl hl.1 rfl (Nat.le_of_ble_eq_true rfl) ⟨Nat.zero_le _, Nat.zero_le _⟩ dX10_search_81 (fun g_6 H locs q_6 hP hS => ?_)
                        obtain ⟨h115_6, f_6⟩ := q_6
                        have h114_6 : g_6 114 = mob ad (nI (wn w)) (nI (wf w)) (nI (wh w)) (lN ov4) (nI (un)) la bo (nI (tp)) ft (nI (wr0)) (nI (wa)) (nI (at0)) (nI (sp)) (nI (tk)) vl (nI (fi)) (nI (nm)) (nI (dp)) wy st (nI (aP)) (nI (aF)) (nI (aH)) (lN aO) (nI (ps)) (nI (qk (aS (Po k0) (kyW (Po k0)) (srS (Po k0) (kyW (Po k0)) w m9) m9 a9))) go (nI (vi)) := (f_6 114 (by omega)).trans h114_5
                        have h134_6 : g_6 134 = .inl (cy 1, 1500, .inl (fun x9 => nI (MP4 x9))) := (f_6 134 (by omega)).trans h134_5
                        have h135_6 : g_6 135 = .inl (cy 2, 1500, .inr (.inl MO4)) := (f_6 135 (by omega)).trans h135_5
                        have h136_6 : g_6 136 = .inl (cy 1, 1500, .inl MF4) := (f_6 136 (by omega)).trans h136_5
                        have h137_6 : g_6 137 = .inl (cy 1, 1500, .inl MB4) := (f_6 137 (by omega)).trans h137_5
                        have h138_6 : g_6 138 = .inl (cy 1, 4096, .inl (fun x9 => nI (SL4 x9))) := (f_6 138 (by omega)).trans h138_5
                        have h130_6 : g_6 130 = .inl (cy 1, 6, .inl (fun x9 => nI (QP x9))) := (f_6 130 (by omega)).trans h130_5
                        have h131_6 : g_6 131 = .inl (cy 1, 6, .inl (fun x9 => nI (QF x9))) := (f_6 131 (by omega)).trans h131_5
                        have h132_6 : g_6 132 = .inl (cy 1, 6, .inl (fun x9 => nI (QH x9))) := (f_6 132 (by omega)).trans h132_5
                        have h133_6 : g_6 133 = .inl (cy 2, 6, .inr (.inl QO)) := (f_6 133 (by omega)).trans h133_5
                        have hfr_6 : ∀ j : Nat, j ≠ 114 → j ≠ 138 → j ≠ 134 → j ≠ 135 → j ≠ 136 → j ≠ 137 → j ≠ 115 → g_6 j = g j := fun j n0 n1 n2 n3 n4 n5 n6 => (f_6 j n6).trans (hfr_5 j n0 n1 n2 n3 n4 n5 n6)
                        refine lv_aload_n hx hb dX10_search_84 rfl (lv_at hl 2 rfl) ?_
                        refine lv_aload_n hx hb dX10_search_85 rfl (lv_at hl 2 rfl) ?_
                        refine mg S hK hP (by omega) h114_6 fd_X10_81 rfl dX10_search_86 ?_
                        refine lv_iload_n hx hb dX10_search_89 rfl (lv_at hl 1 rfl) ?_
                        refine mlal S hK hP (by omega) h135_6 (vp_in_nI (by omega) (by omega)) dX10_search_90 ?_
                        refine tpl (congrArg MO4 (nI_clamp (by omega))) ?_
                        refine tpl (hrv.2.1.2) ?_
                        refine mp S hK hP hI hS (by omega) h114_6 fd_X10_119 rfl rfl (Nat.le_of_ble_eq_true rfl) dX10_search_91 (fun g_7 H locs eg_7 hP hS => ?_)
                        have h114_7 : g_7 114 = mob ad (nI (wn w)) (nI (wf w)) (nI (wh w)) (lN (wo (qM (srS (Po k0) (kyW (Po k0)) w m9) m9))) (nI (un)) la bo (nI (tp)) ft (nI (wr0)) (nI (wa)) (nI (at0)) (nI (sp)) (nI (tk)) vl (nI (fi)) (nI (nm)) (nI (dp)) wy st (nI (aP)) (nI (aF)) (nI (aH)) (lN aO) (nI (ps)) (nI (qk (aS (Po k0) (kyW (Po k0)) (srS (Po k0) (kyW (Po k0)) w m9) m9 a9))) go (nI (vi)) := by rw [eg_7, va_up_self]; exact rfl
                        have h115_7 : g_7 115 = .inl (cy 1, 8, .inl (fun x9 => nI ((upk (pk (wp (qM (srS (Po k0) (kyW (Po k0)) w m9) m9)) (wn w)) P4 (wn w)) x9))) := ((congrFun eg_7 _).trans (va_up_ne _ _ (by omega))).trans h115_6
                        have h134_7 : g_7 134 = .inl (cy 1, 1500, .inl (fun x9 => nI (MP4 x9))) := ((congrFun eg_7 _).trans (va_up_ne _ _ (by omega))).trans h134_6
                        have h135_7 : g_7 135 = .inl (cy 2, 1500, .inr (.inl MO4)) := ((congrFun eg_7 _).trans (va_up_ne _ _ (by omega))).trans h135_6
                        have h136_7 : g_7 136 = .inl (cy 1, 1500, .inl MF4) := ((congrFun eg_7 _).trans (va_up_ne _ _ (by omega))).trans h136_6
                        have h137_7 : g_7 137 = .inl (cy 1, 1500, .inl MB4) := ((congrFun eg_7 _).trans (va_up_ne _ _ (by omega))).trans h137_6
                        have h138_7 : g_7 138 = .inl (cy 1, 4096, .inl (fun x9 => nI (SL4 x9))) := ((congrFun eg_7 _).trans (va_up_ne _ _ (by omega))).trans h138_6
                        have h130_7 : g_7 130 = .inl (cy 1, 6, .inl (fun x9 => nI (QP x9))) := ((congrFun eg_7 _).trans (va_up_ne _ _ (by omega))).trans h130_6
                        have h131_7 : g_7 131 = .inl (cy 1, 6, .inl (fun x9 => nI (QF x9))) := ((congrFun eg_7 _).trans (va_up_ne _ _ (by omega))).trans h131_6
                        have h132_7 : g_7 132 = .inl (cy 1, 6, .inl (fun x9 => nI (QH x9))) := ((congrFun eg_7 _).trans (va_up_ne _ _ (by omega))).trans h132_6
                        have h133_7 : g_7 133 = .inl (cy 2, 6, .inr (.inl QO)) := ((congrFun eg_7 _).trans (va_up_ne _ _ (by omega))).trans h133_6
                        have hfr_7 : ∀ j : Nat, j ≠ 114 → j ≠ 138 → j ≠ 134 → j ≠ 135 → j ≠ 136 → j ≠ 137 → j ≠ 115 → g_7 j = g j := fun j n0 n1 n2 n3 n4 n5 n6 => ((congrFun eg_7 _).trans (va_up_ne _ _ n0)).trans (hfr_6 j n0 n1 n2 n3 n4 n5 n6)
                        refine lv_aload_n hx hb dX10_search_94 rfl (lv_at hl 2 rfl) ?_
                        refine lv_iload hx hb dX10_search_95 (lv_at hl 0 rfl) ?_
                        refine lv_iconst (v := nI (2)) hx hb dX10_search_97 (by decide) ?_
                        refine lv_idiv hx hb dX10_search_98 (fun h => by have h := (z_eq (by omega)).mp h; omega) ?_
                        refine tpi (pk_div (a := a9) (by omega) (by omega) (by omega)) ?_
                        refine lv_iload hx hb dX10_search_99 (lv_at hl 0 rfl) ?_
                        refine lv_iconst (v := nI (2)) hx hb dX10_search_101 (by decide) ?_
                        refine lv_irem hx hb dX10_search_102 (fun h => by have h := (z_eq (by omega)).mp h; omega) ?_
                        refine tpi (pk_rem (a := a9) (by omega) (by omega) (by omega)) ?_
                        have J111 : ∀ (u9 : Nat), (u9 = 1 - a9 % 2) → ∀ (ls : Array Slot), lv_has ls 5 [(4, .int (nI (a9))), (3, .int (nI (m9))), (0, .ref (ad 114)), (1, .int (nI (k0)))] → W p l e (rmF 3 73) s m [.ref (ad 114), .int (nI (k0))].toArray below meth c H locs 0 0 (MQ below (QI (fun r g1 => ∃ (P2 : Nat → Nat), ∃ (ov2 : Nat), ∃ (MP2 : Nat → Nat), ∃ (MO2 : Nat → Int64), ∃ (MF2 : Nat → Int32), ∃ (MB2 : Nat → Int32), ∃ (SL2 : Nat → Nat), (r = gfM (srF w (Po k0))) ∧ (MREL (srF w (Po k0)) (wn w) (wf w) (wh w) MP2 MO2 MF2 MB2 SL2) ∧ g1 114 = mob ad (nI (wn w)) (nI (wf w)) (nI (wh w)) (lN ov2) (nI (un)) la bo (nI (tp)) ft (nI (wr0)) (nI (wa)) (nI (at0)) (nI (sp)) (nI (tk)) vl (nI (fi)) (nI (nm)) (nI (dp)) wy st (nI (aP)) (nI (aF)) (nI (aH)) (lN aO) (nI (ps)) (nI (qk (srF w (Po k0)))) go (nI (vi)) ∧ g1 115 = .inl (cy 1, 8, .inl (fun x9 => nI (P2 x9))) ∧ g1 134 = .inl (cy 1, 1500, .inl (fun x9 => nI (MP2 x9))) ∧ g1 135 = .inl (cy 2, 1500, .inr (.inl MO2)) ∧ g1 136 = .inl (cy 1, 1500, .inl MF2) ∧ g1 137 = .inl (cy 1, 1500, .inl MB2) ∧ g1 138 = .inl (cy 1, 4096, .inl (fun x9 => nI (SL2 x9))) ∧ (∀ j, j ≠ 114 → j ≠ 115 → j ≠ 134 → j ≠ 135 → j ≠ 136 → j ≠ 137 → j ≠ 138 → g1 j = g j)) D ad N) [.ref (ad 114), .int (nI (k0))].toArray s 0 0 (AA ad N)) (F0 m 111 ls [.int (nI (u9)), .int (nI (a9 / 2)), .ref (ad 114)]) := by
                          intro u9 hu9 ls hl
                          refine lv_iconst (v := nI (0)) hx hb dX10_search_111 (by decide) ?_
                          refine kMi (As := [.int (nI (a9 / 2)), .int (nI (u9)), .int (nI (0))]) (rest := []) S hK hP hS (fun _ h => h) (c_X10_change l D cy ad N g_7 hinj (by omega) (wn w) (wf w) (wh w) (wo (qM (srS (Po k0) (kyW (Po k0)) w m9) m9)) un la bo tp ft wr0 wa at0 sp tk vl fi nm dp wy st aP aF aH aO ps (qk (aS (Po k0) (kyW (Po k0)) (srS (Po k0) (kyW (Po k0)) w m9) m9 a9)) go vi h114_7 hn4 hn8 (upk (pk (wp (qM (srS (Po k0) (kyW (Po k0)) w m9) m9)) (wn w)) P4 (wn w)) h115_7 (wd (qM (srS (Po k0) (kyW (Po k0)) w m9) m9)) hpX hVo hh (a9 / 2) (by omega) u9 (by omega) 0 (by omega)) cv_X10_169 (by omega) h114_7 ⟨_, _, rfl⟩ ⟨rfl, rfl⟩ rfl hl.1 rfl (Nat.le_of_ble_eq_true rfl) ⟨Nat.zero_le _, Nat.zero_le _⟩ dX10_search_112 (fun r_112 g_8 H locs q_8 hP hS => ?_)
                          obtain ⟨q_112, h114_8, h115_8, f_8⟩ := q_8
                          subst q_112
                          have h134_8 : g_8 134 = .inl (cy 1, 1500, .inl (fun x9 => nI (MP4 x9))) := (f_8 134 (by omega) (by omega)).trans h134_7
                          have h135_8 : g_8 135 = .inl (cy 2, 1500, .inr (.inl MO4)) := (f_8 135 (by omega) (by omega)).trans h135_7
                          have h136_8 : g_8 136 = .inl (cy 1, 1500, .inl MF4) := (f_8 136 (by omega) (by omega)).trans h136_7
                          have h137_8 : g_8 137 = .inl (cy 1, 1500, .inl MB4) := (f_8 137 (by omega) (by omega)).trans h137_7
                          have h138_8 : g_8 138 = .inl (cy 1, 4096, .inl (fun x9 => nI (SL4 x9))) := (f_8 138 (by omega) (by omega)).trans h138_7
                          have h130_8 : g_8 130 = .inl (cy 1, 6, .inl (fun x9 => nI (QP x9))) := (f_8 130 (by omega) (by omega)).trans h130_7
                          have h131_8 : g_8 131 = .inl (cy 1, 6, .inl (fun x9 => nI (QF x9))) := (f_8 131 (by omega) (by omega)).trans h131_7
                          have h132_8 : g_8 132 = .inl (cy 1, 6, .inl (fun x9 => nI (QH x9))) := (f_8 132 (by omega) (by omega)).trans h132_7
                          have h133_8 : g_8 133 = .inl (cy 2, 6, .inr (.inl QO)) := (f_8 133 (by omega) (by omega)).trans h133_7
                          have hfr_8 : ∀ j : Nat, j ≠ 114 → j ≠ 138 → j ≠ 134 → j ≠ 135 → j ≠ 136 → j ≠ 137 → j ≠ 115 → g_8 j = g j := fun j n0 n1 n2 n3 n4 n5 n6 => (f_8 j n0 n6).trans (hfr_7 j n0 n1 n2 n3 n4 n5 n6)
                          have hdc := dch_e (w := (qM (srS (Po k0) (kyW (Po k0)) w m9) m9)) (a := a9) hVk (by rw [hVn]; omega)
                          have hec : (chg (qM (srS (Po k0) (kyW (Po k0)) w m9) m9) (nI (a9 % 2)) (nI (a9 / 2))).1 = pR (passF (wn w) (wh w) (wd (qM (srS (Po k0) (kyW (Po k0)) w m9) m9) (a9 / 2)) (wd (qM (srS (Po k0) (kyW (Po k0)) w m9) m9) (nx (wn w) (a9 / 2))) (1 - u9) (wo (qM (srS (Po k0) (kyW (Po k0)) w m9) m9)) 4) := by rw [hdc]; unfold chgN; rw [if_pos (show a9 % 2 < 2 by omega), hu9, show 1 - (1 - a9 % 2) = a9 % 2 by omega, ← hVn, ← hVh]; rfl
                          have heo : wo (chg (qM (srS (Po k0) (kyW (Po k0)) w m9) m9) (nI (a9 % 2)) (nI (a9 / 2))).2 = (passF (wn w) (wh w) (wd (qM (srS (Po k0) (kyW (Po k0)) w m9) m9) (a9 / 2)) (wd (qM (srS (Po k0) (kyW (Po k0)) w m9) m9) (nx (wn w) (a9 / 2))) (1 - u9) (wo (qM (srS (Po k0) (kyW (Po k0)) w m9) m9)) 4).getD (wo (qM (srS (Po k0) (kyW (Po k0)) w m9) m9)) := by rw [hdc]; unfold chgN; rw [if_pos (show a9 % 2 < 2 by omega), hu9, show 1 - (1 - a9 % 2) = a9 % 2 by omega, ← hVn, ← hVh]; rfl
                          have hep : ∀ i, i < wn (chg (qM (srS (Po k0) (kyW (Po k0)) w m9) m9) (nI (a9 % 2)) (nI (a9 / 2))).2 → (if 0 = 0 ∧ (passF (wn w) (wh w) (wd (qM (srS (Po k0) (kyW (Po k0)) w m9) m9) (a9 / 2)) (wd (qM (srS (Po k0) (kyW (Po k0)) w m9) m9) (nx (wn w) (a9 / 2))) (1 - u9) (wo (qM (srS (Po k0) (kyW (Po k0)) w m9) m9)) 4).isSome = true then swp (upk (pk (wp (qM (srS (Po k0) (kyW (Po k0)) w m9) m9)) (wn w)) P4 (wn w)) (wd (qM (srS (Po k0) (kyW (Po k0)) w m9) m9) (a9 / 2)) (wd (qM (srS (Po k0) (kyW (Po k0)) w m9) m9) (nx (wn w) (a9 / 2))) else (upk (pk (wp (qM (srS (Po k0) (kyW (Po k0)) w m9) m9)) (wn w)) P4 (wn w))) i = wp (chg (qM (srS (Po k0) (kyW (Po k0)) w m9) m9) (nI (a9 % 2)) (nI (a9 / 2))).2 i := by rw [hWn, hdc]; have q := chgP (w := (qM (srS (Po k0) (kyW (Po k0)) w m9) m9)) (P := (upk (pk (wp (qM (srS (Po k0) (kyW (Po k0)) w m9) m9)) (wn w)) P4 (wn w))) (K := a9 / 2) (S := a9 % 2) (by omega) hVk (by rw [hVn]; omega) hPX; unfold wPass at q; rw [hVn, hVh] at q; rw [hu9, show 1 - (1 - a9 % 2) = a9 % 2 by omega]; exact q
                          refine lv_iconst (v := nI (1)) hx hb dX10_search_115 (by decide) ?_
                          have J157 : ∀ (ov5 : Nat) (P5 : Nat → Nat) (MP5 : Nat → Nat) (MO5 : Nat → Int64) (MF5 MB5 : Nat → Int32) (SL5 : Nat → Nat), (gOn (aS (Po k0) (kyW (Po k0)) (srS (Po k0) (kyW (Po k0)) w m9) m9 (a9 + 1)) = true) → (MREL (aS (Po k0) (kyW (Po k0)) (srS (Po k0) (kyW (Po k0)) w m9) m9 (a9 + 1)) (wn w) (wf w) (wh w) MP5 MO5 MF5 MB5 SL5) → ∀ (g_9 : Nat → va_E) (H : Heap) (locs : List Loc), g_9 114 = mob ad (nI (wn w)) (nI (wf w)) (nI (wh w)) (lN ov5) (nI (un)) la bo (nI (tp)) ft (nI (wr0)) (nI (wa)) (nI (at0)) (nI (sp)) (nI (tk)) vl (nI (fi)) (nI (nm)) (nI (dp)) wy st (nI (aP)) (nI (aF)) (nI (aH)) (lN aO) (nI (ps)) (nI (qk (aS (Po k0) (kyW (Po k0)) (srS (Po k0) (kyW (Po k0)) w m9) m9 (a9 + 1)))) go (nI (vi)) → g_9 115 = .inl (cy 1, 8, .inl (fun x9 => nI (P5 x9))) → g_9 134 = .inl (cy 1, 1500, .inl (fun x9 => nI (MP5 x9))) → g_9 135 = .inl (cy 2, 1500, .inr (.inl MO5)) → g_9 136 = .inl (cy 1, 1500, .inl MF5) → g_9 137 = .inl (cy 1, 1500, .inl MB5) → g_9 138 = .inl (cy 1, 4096, .inl (fun x9 => nI (SL5 x9))) → (∀ j : Nat, j ≠ 114 → j ≠ 138 → j ≠ 134 → j ≠ 135 → j ≠ 136 → j ≠ 137 → j ≠ 115 → g_9 j = g j) → MM D ad N g_9 H → va_S (AA ad N) s.heap H locs → ∀ (ls : Array Slot), lv_has ls 5 [(4, .int (nI (a9))), (3, .int (nI (m9))), (0, .ref (ad 114)), (1, .int (nI (k0)))] → W p l e (rmF 3 73) s m [.ref (ad 114), .int (nI (k0))].toArray below meth c H locs 0 0 (MQ below (QI (fun r g1 => ∃ (P2 : Nat → Nat), ∃ (ov2 : Nat), ∃ (MP2 : Nat → Nat), ∃ (MO2 : Nat → Int64), ∃ (MF2 : Nat → Int32), ∃ (MB2 : Nat → Int32), ∃ (SL2 : Nat → Nat), (r = gfM (srF w (Po k0))) ∧ (MREL (srF w (Po k0)) (wn w) (wf w) (wh w) MP2 MO2 MF2 MB2 SL2) ∧ g1 114 = mob ad (nI (wn w)) (nI (wf w)) (nI (wh w)) (lN ov2) (nI (un)) la bo (nI (tp)) ft (nI (wr0)) (nI (wa)) (nI (at0)) (nI (sp)) (nI (tk)) vl (nI (fi)) (nI (nm)) (nI (dp)) wy st (nI (aP)) (nI (aF)) (nI (aH)) (lN aO) (nI (ps)) (nI (qk (srF w (Po k0)))) go (nI (vi)) ∧ g1 115 = .inl (cy 1, 8, .inl (fun x9 => nI (P2 x9))) ∧ g1 134 = .inl (cy 1, 1500, .inl (fun x9 => nI (MP2 x9))) ∧ g1 135 = .inl (cy 2, 1500, .inr (.inl MO2)) ∧ g1 136 = .inl (cy 1, 1500, .inl MF2) ∧ g1 137 = .inl (cy 1, 1500, .inl MB2) ∧ g1 138 = .inl (cy 1, 4096, .inl (fun x9 => nI (SL2 x9))) ∧ (∀ j, j ≠ 114 → j ≠ 115 → j ≠ 134 → j ≠ 135 → j ≠ 136 → j ≠ 137 → j ≠ 138 → g1 j = g j)) D ad N) [.ref (ad 114), .int (nI (k0))].toArray s 0 0 (AA ad N)) (F0 m 157 ls []) := by
                            intro ov5 P5 MP5 MO5 MF5 MB5 SL5 hg5 hR5 g_9 H locs h114_9 h115_9 h134_9 h135_9 h136_9 h137_9 h138_9 hfr_9 hP hS ls hl
                            have h130_9 : g_9 130 = .inl (cy 1, 6, .inl (fun x9 => nI (QP x9))) := (hfr_9 130 (by omega) (by omega) (by omega) (by omega) (by omega) (by omega) (by omega)).trans hq1
                            have h131_9 : g_9 131 = .inl (cy 1, 6, .inl (fun x9 => nI (QF x9))) := (hfr_9 131 (by omega) (by omega) (by omega) (by omega) (by omega) (by omega) (by omega)).trans hq2
                            have h132_9 : g_9 132 = .inl (cy 1, 6, .inl (fun x9 => nI (QH x9))) := (hfr_9 132 (by omega) (by omega) (by omega) (by omega) (by omega) (by omega) (by omega)).trans hq3
                            have h133_9 : g_9 133 = .inl (cy 2, 6, .inr (.inl QO)) := (hfr_9 133 (by omega) (by omega) (by omega) (by omega) (by omega) (by omega) (by omega)).trans hq4
                            refine lv_iinc (v := nI (a9 + 1)) (lv' := [(4, .int (nI (a9 + 1))), (3, .int (nI (m9))), (0, .ref (ad 114)), (1, .int (nI (k0)))]) hx hb dX10_search_157 hl (k := 0) rfl (by exact nI_add a9 1) (by decide) rfl (fun ls hl => ?_)
                            refine lv_goto (tgt := 63) hx hb dX10_search_160 (by decide) ?_
                            exact ih63 (a9 + 1) ov5 P5 MP5 MO5 MF5 MB5 SL5 (by omega) hg5 hR5 (by omega) g_9 _ _ h114_9 h115_9 h134_9 h135_9 h136_9 h137_9 h138_9 hfr_9 hP hS _ (lv_sub hl [0, 1, 2, 3] rfl)
                          refine lv_icmp_ne (tgt := 157) hx hb dX10_search_116 (by decide) (fun c_116 => ?_) (fun c_116 => ?_)
                          · skip
                            have han := aS_nc hg4 (show ¬ (chg (qM (srS (Po k0) (kyW (Po k0)) w m9) m9) (nI (a9 % 2)) (nI (a9 / 2))).1 = 1 from (by rw [hec]; exact c_116))
                            exact J157 (if 0 = 0 then (passF (wn w) (wh w) (wd (qM (srS (Po k0) (kyW (Po k0)) w m9) m9) (a9 / 2)) (wd (qM (srS (Po k0) (kyW (Po k0)) w m9) m9) (nx (wn w) (a9 / 2))) (1 - u9) (wo (qM (srS (Po k0) (kyW (Po k0)) w m9) m9)) 4).getD (wo (qM (srS (Po k0) (kyW (Po k0)) w m9) m9)) else wo (qM (srS (Po k0) (kyW (Po k0)) w m9) m9)) (if 0 = 0 ∧ (passF (wn w) (wh w) ((wd (qM (srS (Po k0) (kyW (Po k0)) w m9) m9)) (a9 / 2)) ((wd (qM (srS (Po k0) (kyW (Po k0)) w m9) m9)) (nx (wn w) (a9 / 2))) (1 - u9) (wo (qM (srS (Po k0) (kyW (Po k0)) w m9) m9)) 4).isSome = true then swp (upk (pk (wp (qM (srS (Po k0) (kyW (Po k0)) w m9) m9)) (wn w)) P4 (wn w)) ((wd (qM (srS (Po k0) (kyW (Po k0)) w m9) m9)) (a9 / 2)) ((wd (qM (srS (Po k0) (kyW (Po k0)) w m9) m9)) (nx (wn w) (a9 / 2))) else (upk (pk (wp (qM (srS (Po k0) (kyW (Po k0)) w m9) m9)) (wn w)) P4 (wn w))) MP4 MO4 MF4 MB4 SL4 (by rw [han]; exact hg4) (by rw [han]; exact hR4) g_8 _ _ (by rw [han]; exact h114_8) h115_8 h134_8 h135_8 h136_8 h137_8 h138_8 hfr_8 hP hS _ (lv_sub hl [0, 1, 2, 3] rfl)
                          · skip
                            refine lv_aload_n hx hb dX10_search_119 rfl (lv_at hl 2 rfl) ?_
                            refine lv_iload_n hx hb dX10_search_120 rfl (lv_at hl 1 rfl) ?_
                            refine lv_iload hx hb dX10_search_121 (lv_at hl 0 rfl) ?_
                            refine kMi (As := [.int (nI (m9)), .int (nI (a9))]) (rest := []) S hK hP hS (fun _ h => h) (c_X10_meets l D cy ad N g_8 hinj ((aS (Po k0) (kyW (Po k0)) (srS (Po k0) (kyW (Po k0)) w m9) m9 a9)) (by omega) ((chg (qM (srS (Po k0) (kyW (Po k0)) w m9) m9) (nI (a9 % 2)) (nI (a9 / 2))).2) un la bo tp ft wr0 wa at0 sp tk vl fi nm dp wy st aP aF aH aO ps go vi (by rw [hWn, hWf, hWh, heo]; exact h114_8) (if 0 = 0 ∧ (passF (wn w) (wh w) ((wd (qM (srS (Po k0) (kyW (Po k0)) w m9) m9)) (a9 / 2)) ((wd (qM (srS (Po k0) (kyW (Po k0)) w m9) m9)) (nx (wn w) (a9 / 2))) (1 - u9) (wo (qM (srS (Po k0) (kyW (Po k0)) w m9) m9)) 4).isSome = true then swp (upk (pk (wp (qM (srS (Po k0) (kyW (Po k0)) w m9) m9)) (wn w)) P4 (wn w)) ((wd (qM (srS (Po k0) (kyW (Po k0)) w m9) m9)) (a9 / 2)) ((wd (qM (srS (Po k0) (kyW (Po k0)) w m9) m9)) (nx (wn w) (a9 / 2))) else (upk (pk (wp (qM (srS (Po k0) (kyW (Po k0)) w m9) m9)) (wn w)) P4 (wn w))) h115_8 hcf.1 hep MP4 h134_8 MO4 h135_8 MF4 h136_8 MB4 h137_8 SL4 h138_8 ((Po k0)) ((kyW (Po k0))) m9 a9 (nI (m9)) (nI (a9)) (by rw [hWn, hWf, hWh]; exact hR4) (gOn_t.mp hg4).2 (if_neg (by omega)).symm (if_neg (by omega)).symm (Or.inr (by omega)) (by omega)) cv_X10_345 (by omega) h114_8 ⟨_, _, rfl⟩ ⟨rfl, rfl⟩ rfl hl.1 rfl (Nat.le_of_ble_eq_true rfl) ⟨Nat.zero_le _, Nat.zero_le _⟩ dX10_search_123 (fun r_123 g_10 H locs q_10 hP hS => ?_)
                            obtain ⟨MP2_10, MO2_10, MF2_10, MB2_10, SL2_10, q_123, hR2_10, h114_10, h134_10, h135_10, h136_10, h137_10, h138_10, f_10⟩ := q_10
                            subst q_123
                            have h115_10 : g_10 115 = .inl (cy 1, 8, .inl (fun x9 => nI ((if 0 = 0 ∧ (passF (wn w) (wh w) ((wd (qM (srS (Po k0) (kyW (Po k0)) w m9) m9)) (a9 / 2)) ((wd (qM (srS (Po k0) (kyW (Po k0)) w m9) m9)) (nx (wn w) (a9 / 2))) (1 - u9) (wo (qM (srS (Po k0) (kyW (Po k0)) w m9) m9)) 4).isSome = true then swp (upk (pk (wp (qM (srS (Po k0) (kyW (Po k0)) w m9) m9)) (wn w)) P4 (wn w)) ((wd (qM (srS (Po k0) (kyW (Po k0)) w m9) m9)) (a9 / 2)) ((wd (qM (srS (Po k0) (kyW (Po k0)) w m9) m9)) (nx (wn w) (a9 / 2))) else (upk (pk (wp (qM (srS (Po k0) (kyW (Po k0)) w m9) m9)) (wn w)) P4 (wn w))) x9))) := (f_10 115 (by omega) (by omega) (by omega) (by omega) (by omega) (by omega)).trans h115_8
                            have h130_10 : g_10 130 = .inl (cy 1, 6, .inl (fun x9 => nI (QP x9))) := (f_10 130 (by omega) (by omega) (by omega) (by omega) (by omega) (by omega)).trans h130_8
                            have h131_10 : g_10 131 = .inl (cy 1, 6, .inl (fun x9 => nI (QF x9))) := (f_10 131 (by omega) (by omega) (by omega) (by omega) (by omega) (by omega)).trans h131_8
                            have h132_10 : g_10 132 = .inl (cy 1, 6, .inl (fun x9 => nI (QH x9))) := (f_10 132 (by omega) (by omega) (by omega) (by omega) (by omega) (by omega)).trans h132_8
                            have h133_10 : g_10 133 = .inl (cy 2, 6, .inr (.inl QO)) := (f_10 133 (by omega) (by omega) (by omega) (by omega) (by omega) (by omega)).trans h133_8
                            have hfr_10 : ∀ j : Nat, j ≠ 114 → j ≠ 138 → j ≠ 134 → j ≠ 135 → j ≠ 136 → j ≠ 137 → j ≠ 115 → g_10 j = g j := fun j n0 n1 n2 n3 n4 n5 n6 => (f_10 j n0 n2 n3 n4 n5 n1).trans (hfr_8 j n0 n1 n2 n3 n4 n5 n6)
                            have hRm := hR2_10
                            have hc1 : (chg (qM (srS (Po k0) (kyW (Po k0)) w m9) m9) (nI (a9 % 2)) (nI (a9 / 2))).1 = 1 := by rw [hec]; exact c_116
                            have hay := aS_yes hg4 hc1
                            rw [← hay, hWn, hWf, hWh] at hRm
                            refine lv_if_eq (tgt := 157) hx hb dX10_search_126 (by decide) (fun c_126 => ?_) (fun c_126 => ?_)
                            · skip
                              have c_126 := bz_eq.mp c_126
                              have hMt : isMet (aS (Po k0) (kyW (Po k0)) (srS (Po k0) (kyW (Po k0)) w m9) m9 a9) (chg (qM (srS (Po k0) (kyW (Po k0)) w m9) m9) (nI (a9 % 2)) (nI (a9 / 2))).2 = true := by cases q : isMet (aS (Po k0) (kyW (Po k0)) (srS (Po k0) (kyW (Po k0)) w m9) m9 a9) (chg (qM (srS (Po k0) (kyW (Po k0)) w m9) m9) (nI (a9 % 2)) (nI (a9 / 2))).2 with | true => rfl | false => exact absurd q c_126
                              have hmn := mt_no (t := (Po k0)) (gk := (kyW (Po k0))) (p := m9) (a := a9) (w := (chg (qM (srS (Po k0) (kyW (Po k0)) w m9) m9) (nI (a9 % 2)) (nI (a9 / 2))).2) (Q := (aS (Po k0) (kyW (Po k0)) (srS (Po k0) (kyW (Po k0)) w m9) m9 a9)) (Or.inl hMt)
                              exact J157 (wo (chg (qM (srS (Po k0) (kyW (Po k0)) w m9) m9) (nI (a9 % 2)) (nI (a9 / 2))).2) (if 0 = 0 ∧ (passF (wn w) (wh w) ((wd (qM (srS (Po k0) (kyW (Po k0)) w m9) m9)) (a9 / 2)) ((wd (qM (srS (Po k0) (kyW (Po k0)) w m9) m9)) (nx (wn w) (a9 / 2))) (1 - u9) (wo (qM (srS (Po k0) (kyW (Po k0)) w m9) m9)) 4).isSome = true then swp (upk (pk (wp (qM (srS (Po k0) (kyW (Po k0)) w m9) m9)) (wn w)) P4 (wn w)) ((wd (qM (srS (Po k0) (kyW (Po k0)) w m9) m9)) (a9 / 2)) ((wd (qM (srS (Po k0) (kyW (Po k0)) w m9) m9)) (nx (wn w) (a9 / 2))) else (upk (pk (wp (qM (srS (Po k0) (kyW (Po k0)) w m9) m9)) (wn w)) P4 (wn w))) MP2_10 MO2_10 MF2_10 MB2_10 SL2_10 (by rw [hay, hmn]; exact hg4) hRm g_10 _ _ (by have q := h114_10; rw [hWn, hWf, hWh] at q; rw [hay]; exact q) h115_10 h134_10 h135_10 h136_10 h137_10 h138_10 hfr_10 hP hS _ (lv_sub hl [0, 1, 2, 3] rfl)
                            · skip
                              have c_126 := bz_ne.mp c_126
                              have hqg := mt_qg (t := (Po k0)) (gk := (kyW (Po k0))) (p := m9) (a := a9) c_126 (gOn_t.mp hg4).2
                              have hqk := mt_k (t := (Po k0)) (gk := (kyW (Po k0))) (p := m9) (a := a9) (show ¬ isMet (aS (Po k0) (kyW (Po k0)) (srS (Po k0) (kyW (Po k0)) w m9) m9 a9) (chg (qM (srS (Po k0) (kyW (Po k0)) w m9) m9) (nI (a9 % 2)) (nI (a9 / 2))).2 = true from (by rw [c_126]; decide)) (gOn_t.mp hg4).2
                              have hA15 := (gOn_t.mp hg4).2
                              have hAl := gB_al (w := (chg (qM (srS (Po k0) (kyW (Po k0)) w m9) m9) (nI (a9 % 2)) (nI (a9 / 2))).2) (t := (Po k0)) hcf.1 hKq.1 (by rw [hWn]; exact hKq.2.1)
                              refine lv_aload_n hx hb dX10_search_129 rfl (lv_at hl 2 rfl) ?_
                              refine lv_iload_n hx hb dX10_search_130 rfl (lv_at hl 3 rfl) ?_
                              refine kVi (As := [.int (nI (k0))]) (rest := []) S hK hP (c_X10_isAlike l D cy ad N g_10 (by omega) ((chg (qM (srS (Po k0) (kyW (Po k0)) w m9) m9) (nI (a9 % 2)) (nI (a9 / 2))).2) un la bo tp ft wr0 wa at0 sp tk vl fi nm dp wy st aP aF aH aO ps (qk (mt ((aS (Po k0) (kyW (Po k0)) (srS (Po k0) (kyW (Po k0)) w m9) m9 a9)) ((chg (qM (srS (Po k0) (kyW (Po k0)) w m9) m9) (nI (a9 % 2)) (nI (a9 / 2))).2) ((Po k0)) ((kyW (Po k0))) m9 a9)) go vi h114_10 (if 0 = 0 ∧ (passF (wn w) (wh w) ((wd (qM (srS (Po k0) (kyW (Po k0)) w m9) m9)) (a9 / 2)) ((wd (qM (srS (Po k0) (kyW (Po k0)) w m9) m9)) (nx (wn w) (a9 / 2))) (1 - u9) (wo (qM (srS (Po k0) (kyW (Po k0)) w m9) m9)) 4).isSome = true then swp (upk (pk (wp (qM (srS (Po k0) (kyW (Po k0)) w m9) m9)) (wn w)) P4 (wn w)) ((wd (qM (srS (Po k0) (kyW (Po k0)) w m9) m9)) (a9 / 2)) ((wd (qM (srS (Po k0) (kyW (Po k0)) w m9) m9)) (nx (wn w) (a9 / 2))) else (upk (pk (wp (qM (srS (Po k0) (kyW (Po k0)) w m9) m9)) (wn w)) P4 (wn w))) h115_10 hcf.1 hep QP h130_10 QF h131_10 QH h132_10 QO h133_10 Po hps (by rw [hWn]; exact hPR) k0 hk0b) cv_X10_333 (by omega) h114_10 ⟨_, _, rfl⟩ ⟨rfl, rfl⟩ rfl hl.1 rfl (Nat.le_of_ble_eq_true rfl) ⟨Nat.zero_le _, Nat.zero_le _⟩ dX10_search_131 (fun r_131 q_131 => ?_)
                              subst q_131
                              refine lv_if_eq (tgt := 144) hx hb dX10_search_134 (by decide) (fun c_134 => ?_) (fun c_134 => ?_)
                              · skip
                                have c_134 := bz_eq.mp c_134
                                rw [if_neg (fun q => c_134 (hAl.mp q))] at hqg
                                refine lv_aload_n hx hb dX10_search_144 rfl (lv_at hl 2 rfl) ?_
                                refine mg S hK hP (by omega) h114_10 fd_X10_342 rfl dX10_search_145 ?_
                                refine lv_sipush (v := nI (1500)) hx hb dX10_search_148 (by decide) ?_
                                refine lv_icmp_ne (tgt := 157) hx hb dX10_search_151 (by decide) (fun c_151 => ?_) (fun c_151 => ?_)
                                · skip
                                  have c_151 := (not_congr (nI_eq (by omega) (by omega))).mp c_151
                                  exact J157 (wo (chg (qM (srS (Po k0) (kyW (Po k0)) w m9) m9) (nI (a9 % 2)) (nI (a9 / 2))).2) (if 0 = 0 ∧ (passF (wn w) (wh w) ((wd (qM (srS (Po k0) (kyW (Po k0)) w m9) m9)) (a9 / 2)) ((wd (qM (srS (Po k0) (kyW (Po k0)) w m9) m9)) (nx (wn w) (a9 / 2))) (1 - u9) (wo (qM (srS (Po k0) (kyW (Po k0)) w m9) m9)) 4).isSome = true then swp (upk (pk (wp (qM (srS (Po k0) (kyW (Po k0)) w m9) m9)) (wn w)) P4 (wn w)) ((wd (qM (srS (Po k0) (kyW (Po k0)) w m9) m9)) (a9 / 2)) ((wd (qM (srS (Po k0) (kyW (Po k0)) w m9) m9)) (nx (wn w) (a9 / 2))) else (upk (pk (wp (qM (srS (Po k0) (kyW (Po k0)) w m9) m9)) (wn w)) P4 (wn w))) MP2_10 MO2_10 MF2_10 MB2_10 SL2_10 (gOn_t.mpr ⟨by rw [hay, hqg]; exact (gOn_t.mp hg4).1, by rw [hay]; omega⟩) hRm g_10 _ _ (by have q := h114_10; rw [hWn, hWf, hWh] at q; rw [hay]; exact q) h115_10 h134_10 h135_10 h136_10 h137_10 h138_10 hfr_10 hP hS _ (lv_sub hl [0, 1, 2, 3] rfl)
                                · skip
                                  have c_151 := (nI_eq (by omega) (by omega)).mp c_151
                                  have hE : (srF w (Po k0)) = (aS (Po k0) (kyW (Po k0)) (srS (Po k0) (kyW (Po k0)) w m9) m9 (a9 + 1)) := srF_mid hm9q (by have := hR3.1; have := (gOn_t.mp hg3).2; omega) hg3 (by omega) (gOn_f (Or.inr (by rw [hay]; omega)))
                                  refine lv_bipush (v := (-6)) hx hb dX10_search_154 (by decide) ?_
                                  exact rMi S hr hlk hP hS ⟨_, wo (chg (qM (srS (Po k0) (kyW (Po k0)) w m9) m9) (nI (a9 % 2)) (nI (a9 / 2))).2, _, _, _, _, _, (by rw [hE]; unfold gfM; rw [hay, hqg, if_pos (gOn_t.mp hg4).1, if_pos (by omega)]), (by rw [hE]; exact hRm), (by rw [hE, hay]; have q := h114_10; rw [hWn, hWf, hWh] at q; exact q), h115_10, h134_10, h135_10, h136_10, h137_10, h138_10, (fun j n0 n1 n2 n3 n4 n5 n6 => hfr_10 j (by omega) (by omega) (by omega) (by omega) (by omega) (by omega) (by omega))⟩ dX10_search_156
                              · skip
                                have c_134 := bz_ne.mp c_134
                                rw [if_pos (hAl.mpr c_134)] at hqg
                                have hE : (srF w (Po k0)) = (aS (Po k0) (kyW (Po k0)) (srS (Po k0) (kyW (Po k0)) w m9) m9 (a9 + 1)) := srF_mid hm9q (by have := hR3.1; have := (gOn_t.mp hg3).2; omega) hg3 (by omega) (gOn_f (Or.inl (by rw [hay, hqg]; omega)))
                                refine lv_aload_n hx hb dX10_search_137 rfl (lv_at hl 2 rfl) ?_
                                refine mg S hK hP (by omega) h114_10 fd_X10_342 rfl dX10_search_138 ?_
                                refine lv_iconst (v := nI (1)) hx hb dX10_search_141 (by decide) ?_
                                refine lv_isub hx hb dX10_search_142 ?_
                                refine tpi (pk_sub (a := qk (mt ((aS (Po k0) (kyW (Po k0)) (srS (Po k0) (kyW (Po k0)) w m9) m9 a9)) ((chg (qM (srS (Po k0) (kyW (Po k0)) w m9) m9) (nI (a9 % 2)) (nI (a9 / 2))).2) ((Po k0)) ((kyW (Po k0))) m9 a9)) (b := 1) (by omega)) ?_
                                exact rMi S hr hlk hP hS ⟨_, wo (chg (qM (srS (Po k0) (kyW (Po k0)) w m9) m9) (nI (a9 % 2)) (nI (a9 / 2))).2, _, _, _, _, _, (by rw [hE]; unfold gfM; rw [hay, hqg, hqk, if_neg (Nat.succ_ne_zero _)]), (by rw [hE]; exact hRm), (by rw [hE, hay]; have q := h114_10; rw [hWn, hWf, hWh] at q; exact q), h115_10, h134_10, h135_10, h136_10, h137_10, h138_10, (fun j n0 n1 n2 n3 n4 n5 n6 => hfr_10 j (by omega) (by omega) (by omega) (by omega) (by omega) (by omega) (by omega))⟩ dX10_search_143
                        refine lv_if_ne (tgt := 110) hx hb dX10_search_103 (by decide) (fun c_103 => ?_) (fun c_103 => ?_)
                        · skip
                          have c_103 := (not_congr (z_eq (by omega))).mp c_103
                          refine lv_iconst (v := nI (0)) hx hb dX10_search_110 (by decide) ?_
                          exact J111 0 (by omega) _ (lv_sub hl [0, 1, 2, 3] rfl)
                        · skip
                          have c_103 := (z_eq (by omega)).mp c_103
                          refine lv_iconst (v := nI (1)) hx hb dX10_search_106 (by decide) ?_
                          refine lv_goto (tgt := 111) hx hb dX10_search_107 (by decide) ?_
                          exact J111 1 (by omega) _ (lv_sub hl [0, 1, 2, 3] rfl)
                  exact L63 ((2 * wn w - 0) + 1) 0 ov3 P3 MP3 MO3 MF3 MB3 SL3 (by omega) hg3 hR3 (Nat.lt_succ_self _) g_4 _ _ h114_4 h115_4 h134_4 h135_4 h136_4 h137_4 h138_4 hfr_4 hP hS _ (lv_sub hl [0, 1, 2, 3] rfl)
            exact L52 ((1500 - 0) + 1) 0 (wo w) P MP2_3 MO2_3 MF2_3 MB2_3 SL2_3 (Nat.zero_le _) (gOn_t.mpr ⟨hq0, by have e : qk (srS (Po k0) (kyW (Po k0)) w 0) = 0 + 1 := hk0q; rw [e]; decide⟩) hR1 (Nat.lt_succ_self _) g_3 _ _ h114_3 h115_3 h134_3 h135_3 h136_3 h137_3 h138_3 (fun j n0 n1 n2 n3 n4 n5 n6 => hfr_3 j (by omega) (by omega) (by omega) (by omega) (by omega) (by omega)) hP hS _ (lv_sub hl [0, 2, 3] rfl)
          · skip
            have c_45 := bz_ne.mp c_45
            have hgB := (gB_al hw hKq.1 hKq.2.1).mpr c_45
            have hS0 : srS (Po k0) (kyW (Po k0)) w 0 = mt (Q0 w) w (Po k0) (kyW (Po k0)) 0 0 := rfl
            have hq0 := mt_qg (t := (Po k0)) (gk := (kyW (Po k0))) (p := 0) (a := 0) c_37 (show qk (Q0 w) < 1500 from (by decide : 0 < 1500))
            rw [if_pos hgB] at hq0
            have hE : (srF w (Po k0)) = srS (Po k0) (kyW (Po k0)) w 0 := srF_e (by omega) (Or.inr (fun q => by have := (gOn_t.mp q.2).1; rw [hS0, hq0] at this; exact absurd this (Nat.succ_ne_zero _)))
            refine lv_iconst (v := nI (0)) hx hb dX10_search_48 (by decide) ?_
            exact rMi S hr hlk hP hS ⟨_, wo w, _, _, _, _, _, (by rw [hE]; unfold gfM; rw [hS0, hq0, if_neg (Nat.succ_ne_zero _)]; rfl), (by rw [hE]; exact hR1), (by rw [hE]; exact h114_3), h115_3, h134_3, h135_3, h136_3, h137_3, h138_3, (fun j n0 n1 n2 n3 n4 n5 n6 => hfr_3 j (by omega) (by omega) (by omega) (by omega) (by omega) (by omega))⟩ dX10_search_49
      · skip
        have c_6 := (not_congr (nI_leI (by omega) (by omega))).mp c_6
        refine lv_aload_n hx hb dX10_search_9 rfl (lv_at hl 1 rfl) ?_
        refine mg S hK hP (by omega) h114_1 fd_X10_90 rfl dX10_search_10 ?_
        refine lv_iload_n hx hb dX10_search_13 rfl (lv_at hl 0 rfl) ?_
        refine lv_iconst (v := nI (0)) hx hb dX10_search_14 (by decide) ?_
        refine mias S hK hP hI hS (by omega) h138_1 (vp_in_nI (by omega) (by omega)) dX10_search_15 (fun g_11 H locs eg_11 hP hS => ?_)
        have h138_11 : g_11 138 = .inl (cy 1, 4096, .inl (fun x9 => nI ((va_up SL1 s9 0) x9))) := by rw [eg_11, va_up_self]; exact (arrN_up (by omega))
        have h114_11 : g_11 114 = mob ad (nI (wn w)) (nI (wf w)) (nI (wh w)) (lN (wo w)) (nI (un)) la bo (nI (tp)) ft (nI (wr0)) (nI (wa)) (nI (at0)) (nI (sp)) (nI (tk)) vl (nI (fi)) (nI (nm)) (nI (dp)) wy st (nI (aP)) (nI (aF)) (nI (aH)) (lN aO) (nI (ps)) (nI (mn)) go (nI (vi)) := ((congrFun eg_11 _).trans (va_up_ne _ _ (by omega))).trans h114_1
        have h115_11 : g_11 115 = .inl (cy 1, 8, .inl (fun x9 => nI (P x9))) := ((congrFun eg_11 _).trans (va_up_ne _ _ (by omega))).trans h115_1
        have h134_11 : g_11 134 = .inl (cy 1, 1500, .inl (fun x9 => nI (MP x9))) := ((congrFun eg_11 _).trans (va_up_ne _ _ (by omega))).trans h134_1
        have h135_11 : g_11 135 = .inl (cy 2, 1500, .inr (.inl MO9)) := ((congrFun eg_11 _).trans (va_up_ne _ _ (by omega))).trans h135_1
        have h136_11 : g_11 136 = .inl (cy 1, 1500, .inl MF) := ((congrFun eg_11 _).trans (va_up_ne _ _ (by omega))).trans h136_1
        have h137_11 : g_11 137 = .inl (cy 1, 1500, .inl MB) := ((congrFun eg_11 _).trans (va_up_ne _ _ (by omega))).trans h137_1
        have h130_11 : g_11 130 = .inl (cy 1, 6, .inl (fun x9 => nI (QP x9))) := ((congrFun eg_11 _).trans (va_up_ne _ _ (by omega))).trans h130_1
        have h131_11 : g_11 131 = .inl (cy 1, 6, .inl (fun x9 => nI (QF x9))) := ((congrFun eg_11 _).trans (va_up_ne _ _ (by omega))).trans h131_1
        have h132_11 : g_11 132 = .inl (cy 1, 6, .inl (fun x9 => nI (QH x9))) := ((congrFun eg_11 _).trans (va_up_ne _ _ (by omega))).trans h132_1
        have h133_11 : g_11 133 = .inl (cy 2, 6, .inr (.inl QO)) := ((congrFun eg_11 _).trans (va_up_ne _ _ (by omega))).trans h133_1
        have hfr_11 : ∀ j : Nat, j ≠ 114 → j ≠ 138 → g_11 j = g j := fun j n0 n1 => ((congrFun eg_11 _).trans (va_up_ne _ _ n1)).trans (hfr_1 j n0 n1)
        refine lv_iinc (v := nI (s9 + 1)) (lv' := [(2, .int (nI (s9 + 1))), (0, .ref (ad 114)), (1, .int (nI (k0)))]) hx hb dX10_search_16 hl (k := 0) rfl (by exact nI_add s9 1) (by decide) rfl (fun ls hl => ?_)
        refine lv_goto (tgt := 2) hx hb dX10_search_19 (by decide) ?_
        exact ih2 (s9 + 1) (va_up SL1 s9 0) (by omega) (lt_sn (fun j hj => by rw [va_up_ne _ _ (by omega)]; exact hSL1 j hj) (va_up_self _ _ _)) (by omega) g_11 _ _ h114_11 h138_11 hfr_11 hP hS _ (lv_sub hl [0, 1, 2] rfl)
  exact L2 ((4096 - 0) + 1) 0 SL (by omega) (fun j q => absurd q (Nat.not_lt_zero _)) (Nat.lt_succ_self _) g _ _ hM hm5 (fun j n0 n1 => hfr j ) hP hS _ (lv_sub hl [0, 1, 2] rfl)

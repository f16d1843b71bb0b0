set_option maxHeartbeats 4000000 in
set_option maxRecDepth 100000 in
theorem c_X10_opens (l : Launch) (D : va_G) (cy : Nat → ClassId) (ad : Nat → Nat) (N : Nat) (g : Nat → va_E) (hinj : ∀ i j : Nat, i < N → j < N → ad i = ad j → i = j) (p9 : PS) (i9 : Nat) (tv : Nat) (hN : 145 ≤ N) (n : Nat) (fa : Nat) (he : Nat) (ov : Nat) (un : Nat) (la : Int32) (bo : Int32) (tp : Nat) (ft : Int32) (wa : Nat) (at0 : Nat) (sp : Nat) (tk : Nat) (fi : Nat) (nm : Nat) (dp : Nat) (wy : Int32) (st : Int32) (aP : Nat) (aF : Nat) (aH : Nat) (aO : Nat) (ps : Nat) (mn : Nat) (go : Int32) (vi : Nat) (hM : g 114 = mob ad (nI (n)) (nI (fa)) (nI (he)) (lN ov) (nI (un)) la bo (nI (tp)) ft (nI (0)) (nI (wa)) (nI (at0)) (nI (sp)) (nI (tk)) (nI (tv)) (nI (fi)) (nI (nm)) (nI (dp)) wy st (nI (aP)) (nI (aF)) (nI (aH)) (lN aO) (nI (ps)) (nI (mn)) go (nI (vi))) (TP : Nat → Nat) (hTP : g 121 = .inl (cy 1, 160, .inl (fun x9 => nI (TP x9)))) (T : Nat → Nat) (htp : tp ≤ 160) (hTT : ∀ i, i < tp → TP i = T i) (hT : ∀ i, T i < 256) (NS : Nat → Nat) (hNS : g 125 = .inl (cy 1, 201, .inl (fun x9 => nI (NS x9)))) (NN : Nat → Nat) (hNN : g 126 = .inl (cy 1, 201, .inl (fun x9 => nI (NN x9)))) (BG : Nat → Nat) (hBG : g 127 = .inl (cy 1, 5, .inl (fun x9 => nI (BG x9)))) (RD : Nat → Nat) (hRD : g 128 = .inl (cy 1, 5, .inl (fun x9 => nI (RD x9)))) (IT : Nat → Nat) (hIT : g 129 = .inl (cy 1, 5, .inl (fun x9 => nI (IT x9)))) (BY : Nat → Nat) (hBY : g 122 = .inl (cy 1, 8, .inl (fun x9 => nI (BY x9)))) (BS : Nat → Nat) (hBS : g 123 = .inl (cy 1, 1600, .inl (fun x9 => nI (BS x9)))) (BN : Nat → Nat) (hBN : g 124 = .inl (cy 1, 1600, .inl (fun x9 => nI (BN x9)))) (Fl : Nat → Nat) (FB : Nat → Nat → Nat) (hfi : fi ≤ 8) (hFR : FR fi BY BS BN Fl FB) (htv : tv < 3000) (hat : at0 ≤ tp) (htk : tk < 2 ^ 31) (hFB : ∀ j i, FB j i < 64) (hM9 : MPR p9 i9 nm dp NS NN BG RD IT) : Met l yX10_opens (WS yX10_opens cX10_opens 2 none) (rmF 2 46) (PP [.ref (ad 114)] D cy ad N g) (QV (fun g1 => ∃ (dp2 : Nat), ∃ (BG2 : Nat → Nat), ∃ (RD2 : Nat → Nat), ∃ (IT2 : Nat → Nat), ∃ (at2 : Nat), ∃ (sp2 : Nat), ∃ (tk2 : Nat), ∃ (vl2 : Int32), ∃ (wr2 : Nat), ∃ (wa2 : Nat), (((tv < 1 ∨ 20 < tv) ∧ wr2 = 3 ∧ wa2 = sp) ∨ (¬ (tv < 1 ∨ 20 < tv) ∧ MXR (tkAny Fl FB fi (lxK T tp at0) (lxV T tp at0) (nuP tv p9)) T tp at0 (i9 + 2) nm dp2 NS NN BG2 RD2 IT2 at2 sp2 tk2 vl2 wr2 wa2)) ∧ g1 114 = mob ad (nI (n)) (nI (fa)) (nI (he)) (lN ov) (nI (un)) la bo (nI (tp)) ft (nI (wr2)) (nI (wa2)) (nI (at2)) (nI (sp2)) (nI (tk2)) vl2 (nI (fi)) (nI (nm)) (nI (dp2)) wy st (nI (aP)) (nI (aF)) (nI (aH)) (lN aO) (nI (ps)) (nI (mn)) go (nI (vi)) ∧ g1 127 = .inl (cy 1, 5, .inl (fun x9 => nI (BG2 x9))) ∧ g1 128 = .inl (cy 1, 5, .inl (fun x9 => nI (RD2 x9))) ∧ g1 129 = .inl (cy 1, 5, .inl (fun x9 => nI (IT2 x9))) ∧ (∀ j, j ≠ 114 → j ≠ 127 → j ≠ 128 → j ≠ 129 → g1 j = g j)) D ad N) 0 0 (AA ad N) := by
  refine mentry (by decide) (Nat.le_of_ble_eq_true rfl) (fun p e s m below meth c ls S hr hlk hnm hP hK hl => ?_)
  have S : CallFix p m c cX10_opens 2 s _ wsL_law RX10 := S
  have hx := S.1
  have hb := S.2.1
  have hl : lv_has ls 2 [(0, .ref (ad 114))] := hl
  have hI : MD (AA ad N) ad N := MD.in hinj
  have hS : va_S (AA ad N) s.heap s.heap [] := va_S.rf
  have hfr : ∀ j : Nat, g j = g j := fun _ => rfl
  have hdp := hM9.2.1
  have hnb := lxN_bd (T := T) hat
  refine lv_aload_n hx hb dX10_opens_0 rfl (lv_at hl 0 rfl) ?_
  refine mg S hK hP (by omega) hM fd_X10_247 rfl dX10_opens_1 ?_
  refine lv_i2l hx hb dX10_opens_4 rfl ?_
  refine tpl (nI_l (by omega)) ?_
  refine lv_lconst (v := lN 1) hx hb dX10_opens_5 (by decide) ?_
  refine lv_ldc2 hx hb S.2.2.2.1 (S.2.2.2.2 _ m_X10_272) dX10_opens_6 ?_
  refine tpl (show (20 : Int64) = lN 20 from rfl) ?_
  refine kSi (As := [.long (lN tv), .long (lN 1), .long (lN 20)]) (rest := []) S hK hP (c_X10_in l D cy ad N g (lN tv) (lN 1) (lN 20)) cs_X10_115 ⟨rfl, rfl⟩ rfl hl.1 rfl (Nat.le_of_ble_eq_true rfl) ⟨Nat.zero_le _, Nat.zero_le _⟩ dX10_opens_9 (fun r_9 q_9 => ?_)
  subst q_9
  refine tpi (ifC (in_nn (by omega) (by omega) (by omega))) ?_
  have J20 : ∀ (wr3 wa3 : Nat), (((tv < 1 ∨ 20 < tv) ∧ wr3 = 3 ∧ wa3 = sp) ∨ (¬ (tv < 1 ∨ 20 < tv) ∧ wr3 = 0)) → ∀ (g_1 : Nat → va_E) (H : Heap) (locs : List Loc), g_1 114 = mob ad (nI (n)) (nI (fa)) (nI (he)) (lN ov) (nI (un)) la bo (nI (tp)) ft (nI (wr3)) (nI (wa3)) (nI (at0)) (nI (sp)) (nI (tk)) (nI (tv)) (nI (fi)) (nI (nm)) (nI (dp)) wy st (nI (aP)) (nI (aF)) (nI (aH)) (lN aO) (nI (ps)) (nI (mn)) go (nI (vi)) → (∀ j : Nat, j ≠ 114 → g_1 j = g j) → MM D ad N g_1 H → va_S (AA ad N) s.heap H locs → ∀ (ls : Array Slot), lv_has ls 2 [(0, .ref (ad 114))] → W p l e (rmF 2 46) s m [.ref (ad 114)].toArray below meth c H locs 0 0 (MQ below (QV (fun g1 => ∃ (dp2 : Nat), ∃ (BG2 : Nat → Nat), ∃ (RD2 : Nat → Nat), ∃ (IT2 : Nat → Nat), ∃ (at2 : Nat), ∃ (sp2 : Nat), ∃ (tk2 : Nat), ∃ (vl2 : Int32), ∃ (wr2 : Nat), ∃ (wa2 : Nat), (((tv < 1 ∨ 20 < tv) ∧ wr2 = 3 ∧ wa2 = sp) ∨ (¬ (tv < 1 ∨ 20 < tv) ∧ MXR (tkAny Fl FB fi (lxK T tp at0) (lxV T tp at0) (nuP tv p9)) T tp at0 (i9 + 2) nm dp2 NS NN BG2 RD2 IT2 at2 sp2 tk2 vl2 wr2 wa2)) ∧ g1 114 = mob ad (nI (n)) (nI (fa)) (nI (he)) (lN ov) (nI (un)) la bo (nI (tp)) ft (nI (wr2)) (nI (wa2)) (nI (at2)) (nI (sp2)) (nI (tk2)) vl2 (nI (fi)) (nI (nm)) (nI (dp2)) wy st (nI (aP)) (nI (aF)) (nI (aH)) (lN aO) (nI (ps)) (nI (mn)) go (nI (vi)) ∧ g1 127 = .inl (cy 1, 5, .inl (fun x9 => nI (BG2 x9))) ∧ g1 128 = .inl (cy 1, 5, .inl (fun x9 => nI (RD2 x9))) ∧ g1 129 = .inl (cy 1, 5, .inl (fun x9 => nI (IT2 x9))) ∧ (∀ j, j ≠ 114 → j ≠ 127 → j ≠ 128 → j ≠ 129 → g1 j = g j)) D ad N) [.ref (ad 114)].toArray s 0 0 (AA ad N)) (F0 m 20 ls []) := by
    intro wr3 wa3 h20 g_1 H locs h114_1 hfr_1 hP hS ls hl
    have h121_1 : g_1 121 = .inl (cy 1, 160, .inl (fun x9 => nI (TP x9))) := (hfr_1 121 (by omega)).trans hTP
    have h125_1 : g_1 125 = .inl (cy 1, 201, .inl (fun x9 => nI (NS x9))) := (hfr_1 125 (by omega)).trans hNS
    have h126_1 : g_1 126 = .inl (cy 1, 201, .inl (fun x9 => nI (NN x9))) := (hfr_1 126 (by omega)).trans hNN
    have h127_1 : g_1 127 = .inl (cy 1, 5, .inl (fun x9 => nI (BG x9))) := (hfr_1 127 (by omega)).trans hBG
    have h128_1 : g_1 128 = .inl (cy 1, 5, .inl (fun x9 => nI (RD x9))) := (hfr_1 128 (by omega)).trans hRD
    have h129_1 : g_1 129 = .inl (cy 1, 5, .inl (fun x9 => nI (IT x9))) := (hfr_1 129 (by omega)).trans hIT
    have h122_1 : g_1 122 = .inl (cy 1, 8, .inl (fun x9 => nI (BY x9))) := (hfr_1 122 (by omega)).trans hBY
    have h123_1 : g_1 123 = .inl (cy 1, 1600, .inl (fun x9 => nI (BS x9))) := (hfr_1 123 (by omega)).trans hBS
    have h124_1 : g_1 124 = .inl (cy 1, 1600, .inl (fun x9 => nI (BN x9))) := (hfr_1 124 (by omega)).trans hBN
    refine lv_aload_n hx hb dX10_opens_20 rfl (lv_at hl 0 rfl) ?_
    refine mg S hK hP (by omega) h114_1 fd_X10_247 rfl dX10_opens_21 ?_
    refine lv_istore_n (lv' := [(1, .int (nI (tv))), (0, .ref (ad 114))]) hx hb dX10_opens_24 rfl hl (by decide) rfl (fun ls hl => ?_)
    refine lv_aload_n hx hb dX10_opens_25 rfl (lv_at hl 1 rfl) ?_
    refine kMv (As := []) (rest := []) S hK hP hS (fun _ h => h) (c_X10_next l D cy ad N g_1 hinj (by omega) n fa he ov un la bo tp ft wr3 wa3 at0 sp tk (nI (tv)) fi nm dp wy st aP aF aH aO ps mn go vi h114_1 TP h121_1 T htp hTT hT (by rcases h20 with q | q <;> omega) hat) cv_X10_259 (by omega) h114_1 ⟨_, _, rfl⟩ ⟨rfl, rfl⟩ rfl hl.1 rfl (Nat.le_of_ble_eq_true rfl) ⟨Nat.zero_le _, Nat.zero_le _⟩ dX10_opens_26 (fun g_2 H locs q_2 hP hS => ?_)
    obtain ⟨at2_2, sp2_2, tk2_2, vl2_2, wr2_2, wa2_2, hNX_2, h114_2, f_2⟩ := q_2
    have h121_2 : g_2 121 = .inl (cy 1, 160, .inl (fun x9 => nI (TP x9))) := (f_2 121 (by omega)).trans h121_1
    have h125_2 : g_2 125 = .inl (cy 1, 201, .inl (fun x9 => nI (NS x9))) := (f_2 125 (by omega)).trans h125_1
    have h126_2 : g_2 126 = .inl (cy 1, 201, .inl (fun x9 => nI (NN x9))) := (f_2 126 (by omega)).trans h126_1
    have h127_2 : g_2 127 = .inl (cy 1, 5, .inl (fun x9 => nI (BG x9))) := (f_2 127 (by omega)).trans h127_1
    have h128_2 : g_2 128 = .inl (cy 1, 5, .inl (fun x9 => nI (RD x9))) := (f_2 128 (by omega)).trans h128_1
    have h129_2 : g_2 129 = .inl (cy 1, 5, .inl (fun x9 => nI (IT x9))) := (f_2 129 (by omega)).trans h129_1
    have h122_2 : g_2 122 = .inl (cy 1, 8, .inl (fun x9 => nI (BY x9))) := (f_2 122 (by omega)).trans h122_1
    have h123_2 : g_2 123 = .inl (cy 1, 1600, .inl (fun x9 => nI (BS x9))) := (f_2 123 (by omega)).trans h123_1
    have h124_2 : g_2 124 = .inl (cy 1, 1600, .inl (fun x9 => nI (BN x9))) := (f_2 124 (by omega)).trans h124_1
    have hfr_2 : ∀ j : Nat, j ≠ 114 → g_2 j = g j := fun j n0 => (f_2 j n0).trans (hfr_1 j n0)
    have hX := hNX_2
    have hw9 : wr2_2 ≤ 3 := by rcases hX with ⟨q1, q2, q3, q4, q5, q6, q7⟩ | ⟨q1, q2⟩; (rcases h20 with z | z <;> omega); (have := (LXR_w q2).1; omega)
    have ht9 : tk2_2 < 2 ^ 31 := by rcases hX with ⟨q1, q2, q3, q4, q5, q6, q7⟩ | ⟨q1, q2⟩; omega; (have := (LXR_w q2).2.1; omega)
    refine lv_aload_n hx hb dX10_opens_29 rfl (lv_at hl 1 rfl) ?_
    refine mg S hK hP (by omega) h114_2 fd_X10_225 rfl dX10_opens_30 ?_
    have J49 : ∀ (wr5 wa5 : Nat), (((tv < 1 ∨ 20 < tv) ∧ wr5 = 3 ∧ wa5 = sp) ∨ (¬ (tv < 1 ∨ 20 < tv) ∧ LXR T tp at0 at2_2 sp2_2 tk2_2 vl2_2 wr2_2 wa2_2 ∧ ((lxK T tp at0 = 6 ∧ wr5 = 1 ∧ wa5 = lxP T tp at0) ∨ (¬ lxK T tp at0 = 6 ∧ ¬ lxK T tp at0 = 2 ∧ wr5 = 2 ∧ wa5 = lxP T tp at0) ∨ (lxK T tp at0 = 2 ∧ wr5 = 0)))) → (wr5 ≤ 3) → ∀ (g_3 : Nat → va_E) (H : Heap) (locs : List Loc), g_3 114 = mob ad (nI (n)) (nI (fa)) (nI (he)) (lN ov) (nI (un)) la bo (nI (tp)) ft (nI (wr5)) (nI (wa5)) (nI (at2_2)) (nI (sp2_2)) (nI (tk2_2)) vl2_2 (nI (fi)) (nI (nm)) (nI (dp)) wy st (nI (aP)) (nI (aF)) (nI (aH)) (lN aO) (nI (ps)) (nI (mn)) go (nI (vi)) → (∀ j : Nat, j ≠ 114 → g_3 j = g j) → MM D ad N g_3 H → va_S (AA ad N) s.heap H locs → ∀ (ls : Array Slot), lv_has ls 2 [(1, .int (nI (tv))), (0, .ref (ad 114))] → W p l e (rmF 2 46) s m [.ref (ad 114)].toArray below meth c H locs 0 0 (MQ below (QV (fun g1 => ∃ (dp2 : Nat), ∃ (BG2 : Nat → Nat), ∃ (RD2 : Nat → Nat), ∃ (IT2 : Nat → Nat), ∃ (at2 : Nat), ∃ (sp2 : Nat), ∃ (tk2 : Nat), ∃ (vl2 : Int32), ∃ (wr2 : Nat), ∃ (wa2 : Nat), (((tv < 1 ∨ 20 < tv) ∧ wr2 = 3 ∧ wa2 = sp) ∨ (¬ (tv < 1 ∨ 20 < tv) ∧ MXR (tkAny Fl FB fi (lxK T tp at0) (lxV T tp at0) (nuP tv p9)) T tp at0 (i9 + 2) nm dp2 NS NN BG2 RD2 IT2 at2 sp2 tk2 vl2 wr2 wa2)) ∧ g1 114 = mob ad (nI (n)) (nI (fa)) (nI (he)) (lN ov) (nI (un)) la bo (nI (tp)) ft (nI (wr2)) (nI (wa2)) (nI (at2)) (nI (sp2)) (nI (tk2)) vl2 (nI (fi)) (nI (nm)) (nI (dp2)) wy st (nI (aP)) (nI (aF)) (nI (aH)) (lN aO) (nI (ps)) (nI (mn)) go (nI (vi)) ∧ g1 127 = .inl (cy 1, 5, .inl (fun x9 => nI (BG2 x9))) ∧ g1 128 = .inl (cy 1, 5, .inl (fun x9 => nI (RD2 x9))) ∧ g1 129 = .inl (cy 1, 5, .inl (fun x9 => nI (IT2 x9))) ∧ (∀ j, j ≠ 114 → j ≠ 127 → j ≠ 128 → j ≠ 129 → g1 j = g j)) D ad N) [.ref (ad 114)].toArray s 0 0 (AA ad N)) (F0 m 49 ls []) := by
      intro wr5 wa5 h49 h49b g_3 H locs h114_3 hfr_3 hP hS ls hl
      have h121_3 : g_3 121 = .inl (cy 1, 160, .inl (fun x9 => nI (TP x9))) := (hfr_3 121 (by omega)).trans hTP
      have h125_3 : g_3 125 = .inl (cy 1, 201, .inl (fun x9 => nI (NS x9))) := (hfr_3 125 (by omega)).trans hNS
      have h126_3 : g_3 126 = .inl (cy 1, 201, .inl (fun x9 => nI (NN x9))) := (hfr_3 126 (by omega)).trans hNN
      have h127_3 : g_3 127 = .inl (cy 1, 5, .inl (fun x9 => nI (BG x9))) := (hfr_3 127 (by omega)).trans hBG
      have h128_3 : g_3 128 = .inl (cy 1, 5, .inl (fun x9 => nI (RD x9))) := (hfr_3 128 (by omega)).trans hRD
      have h129_3 : g_3 129 = .inl (cy 1, 5, .inl (fun x9 => nI (IT x9))) := (hfr_3 129 (by omega)).trans hIT
      have h122_3 : g_3 122 = .inl (cy 1, 8, .inl (fun x9 => nI (BY x9))) := (hfr_3 122 (by omega)).trans hBY
      have h123_3 : g_3 123 = .inl (cy 1, 1600, .inl (fun x9 => nI (BS x9))) := (hfr_3 123 (by omega)).trans hBS
      have h124_3 : g_3 124 = .inl (cy 1, 1600, .inl (fun x9 => nI (BN x9))) := (hfr_3 124 (by omega)).trans hBN
      refine lv_aload_n hx hb dX10_opens_49 rfl (lv_at hl 1 rfl) ?_
      refine mg S hK hP (by omega) h114_3 fd_X10_225 rfl dX10_opens_50 ?_
      have J69 : ∀ (wr6 wa6 : Nat), (((tv < 1 ∨ 20 < tv) ∧ wr6 = 3 ∧ wa6 = sp) ∨ (¬ (tv < 1 ∨ 20 < tv) ∧ LXR T tp at0 at2_2 sp2_2 tk2_2 vl2_2 wr2_2 wa2_2 ∧ ((¬ (tkAny Fl FB fi (lxK T tp at0) (lxV T tp at0) (nuP tv p9)).1 = 0 ∧ wr6 = (tkAny Fl FB fi (lxK T tp at0) (lxV T tp at0) (nuP tv p9)).1 ∧ wa6 = lxP T tp at0) ∨ ((tkAny Fl FB fi (lxK T tp at0) (lxV T tp at0) (nuP tv p9)).1 = 0 ∧ wr6 = 0 ∧ lxK T tp at0 = 2 ∧ pOp p9 < 4)))) → (wr6 ≤ 4) → ∀ (g_4 : Nat → va_E) (H : Heap) (locs : List Loc), g_4 114 = mob ad (nI (n)) (nI (fa)) (nI (he)) (lN ov) (nI (un)) la bo (nI (tp)) ft (nI (wr6)) (nI (wa6)) (nI (at2_2)) (nI (sp2_2)) (nI (tk2_2)) vl2_2 (nI (fi)) (nI (nm)) (nI (dp)) wy st (nI (aP)) (nI (aF)) (nI (aH)) (lN aO) (nI (ps)) (nI (mn)) go (nI (vi)) → (∀ j : Nat, j ≠ 114 → g_4 j = g j) → MM D ad N g_4 H → va_S (AA ad N) s.heap H locs → ∀ (ls : Array Slot), lv_has ls 2 [(1, .int (nI (tv))), (0, .ref (ad 114))] → W p l e (rmF 2 46) s m [.ref (ad 114)].toArray below meth c H locs 0 0 (MQ below (QV (fun g1 => ∃ (dp2 : Nat), ∃ (BG2 : Nat → Nat), ∃ (RD2 : Nat → Nat), ∃ (IT2 : Nat → Nat), ∃ (at2 : Nat), ∃ (sp2 : Nat), ∃ (tk2 : Nat), ∃ (vl2 : Int32), ∃ (wr2 : Nat), ∃ (wa2 : Nat), (((tv < 1 ∨ 20 < tv) ∧ wr2 = 3 ∧ wa2 = sp) ∨ (¬ (tv < 1 ∨ 20 < tv) ∧ MXR (tkAny Fl FB fi (lxK T tp at0) (lxV T tp at0) (nuP tv p9)) T tp at0 (i9 + 2) nm dp2 NS NN BG2 RD2 IT2 at2 sp2 tk2 vl2 wr2 wa2)) ∧ g1 114 = mob ad (nI (n)) (nI (fa)) (nI (he)) (lN ov) (nI (un)) la bo (nI (tp)) ft (nI (wr2)) (nI (wa2)) (nI (at2)) (nI (sp2)) (nI (tk2)) vl2 (nI (fi)) (nI (nm)) (nI (dp2)) wy st (nI (aP)) (nI (aF)) (nI (aH)) (lN aO) (nI (ps)) (nI (mn)) go (nI (vi)) ∧ g1 127 = .inl (cy 1, 5, .inl (fun x9 => nI (BG2 x9))) ∧ g1 128 = .inl (cy 1, 5, .inl (fun x9 => nI (RD2 x9))) ∧ g1 129 = .inl (cy 1, 5, .inl (fun x9 => nI (IT2 x9))) ∧ (∀ j, j ≠ 114 → j ≠ 127 → j ≠ 128 → j ≠ 129 → g1 j = g j)) D ad N) [.ref (ad 114)].toArray s 0 0 (AA ad N)) (F0 m 69 ls []) := by
        intro wr6 wa6 h69 h69b g_4 H locs h114_4 hfr_4 hP hS ls hl
        have h121_4 : g_4 121 = .inl (cy 1, 160, .inl (fun x9 => nI (TP x9))) := (hfr_4 121 (by omega)).trans hTP
        have h125_4 : g_4 125 = .inl (cy 1, 201, .inl (fun x9 => nI (NS x9))) := (hfr_4 125 (by omega)).trans hNS
        have h126_4 : g_4 126 = .inl (cy 1, 201, .inl (fun x9 => nI (NN x9))) := (hfr_4 126 (by omega)).trans hNN
        have h127_4 : g_4 127 = .inl (cy 1, 5, .inl (fun x9 => nI (BG x9))) := (hfr_4 127 (by omega)).trans hBG
        have h128_4 : g_4 128 = .inl (cy 1, 5, .inl (fun x9 => nI (RD x9))) := (hfr_4 128 (by omega)).trans hRD
        have h129_4 : g_4 129 = .inl (cy 1, 5, .inl (fun x9 => nI (IT x9))) := (hfr_4 129 (by omega)).trans hIT
        have h122_4 : g_4 122 = .inl (cy 1, 8, .inl (fun x9 => nI (BY x9))) := (hfr_4 122 (by omega)).trans hBY
        have h123_4 : g_4 123 = .inl (cy 1, 1600, .inl (fun x9 => nI (BS x9))) := (hfr_4 123 (by omega)).trans hBS
        have h124_4 : g_4 124 = .inl (cy 1, 1600, .inl (fun x9 => nI (BN x9))) := (hfr_4 124 (by omega)).trans hBN
        refine lv_aload_n hx hb dX10_opens_69 rfl (lv_at hl 1 rfl) ?_
        refine mg S hK hP (by omega) h114_4 fd_X10_225 rfl dX10_opens_70 ?_
        refine lv_if_le (tgt := 77) hx hb dX10_opens_73 (by decide) (fun c_73 => ?_) (fun c_73 => ?_)
        · skip
          have c_73 := (z_le (by omega)).mp c_73
          have h5 : ¬ (tv < 1 ∨ 20 < tv) ∧ LXR T tp at0 at2_2 sp2_2 tk2_2 vl2_2 wr2_2 wa2_2 ∧ ((tkAny Fl FB fi (lxK T tp at0) (lxV T tp at0) (nuP tv p9)).1 = 0 ∧ wr6 = 0 ∧ lxK T tp at0 = 2 ∧ pOp p9 < 4) := by rcases h69 with z | ⟨z1, z2, z3⟩; exact absurd z.2.1 (by omega); (rcases z3 with ⟨y1, y2, y3⟩ | y; exact absurd (y2.symm.trans c_73) y1; exact ⟨z1, z2, y⟩)
          have h4 := h5.2.2
          have hL := h5.2.1
          have hLw := LXR_w hL
          have hK1 : POK (nuP tv p9) := by have q := tkItem_ok (kd := 1) (tv := tv) hM9.1.2 (fun _ => htv) (fun z => absurd z (by decide)); rw [nuP_e] at q; exact q
          refine lv_aload_n hx hb dX10_opens_77 rfl (lv_at hl 1 rfl) ?_
          refine mg S hK hP (by omega) h114_4 fd_X10_63 rfl dX10_opens_78 ?_
          refine lv_aload_n hx hb dX10_opens_81 rfl (lv_at hl 1 rfl) ?_
          refine mg S hK hP (by omega) h114_4 fd_X10_269 rfl dX10_opens_82 ?_
          refine lv_dup2_11 hx hb dX10_opens_85 rfl rfl ?_
          refine mial S hK hP (by omega) h129_4 (vp_in_nI (by omega) (by omega)) dX10_opens_86 ?_
          refine tpi (congrArg ((fun x9 => nI (IT x9))) (nI_clamp (by omega))) ?_
          refine lv_iconst (v := nI (1)) hx hb dX10_opens_87 (by decide) ?_
          refine lv_iadd hx hb dX10_opens_88 ?_
          refine tpi (nI_add (IT dp) 1) ?_
          refine mias S hK hP hI hS (by omega) h129_4 (vp_in_nI (by omega) (by omega)) dX10_opens_89 (fun g_5 H locs eg_5 hP hS => ?_)
          have h129_5 : g_5 129 = .inl (cy 1, 5, .inl (fun x9 => nI ((va_up IT dp (IT dp + 1)) x9))) := by rw [eg_5, va_up_self]; exact (arrN_up (by omega))
          have h114_5 : g_5 114 = mob ad (nI (n)) (nI (fa)) (nI (he)) (lN ov) (nI (un)) la bo (nI (tp)) ft (nI (wr6)) (nI (wa6)) (nI (at2_2)) (nI (sp2_2)) (nI (tk2_2)) vl2_2 (nI (fi)) (nI (nm)) (nI (dp)) wy st (nI (aP)) (nI (aF)) (nI (aH)) (lN aO) (nI (ps)) (nI (mn)) go (nI (vi)) := ((congrFun eg_5 _).trans (va_up_ne _ _ (by omega))).trans h114_4
          have h121_5 : g_5 121 = .inl (cy 1, 160, .inl (fun x9 => nI (TP x9))) := ((congrFun eg_5 _).trans (va_up_ne _ _ (by omega))).trans h121_4
          have h125_5 : g_5 125 = .inl (cy 1, 201, .inl (fun x9 => nI (NS x9))) := ((congrFun eg_5 _).trans (va_up_ne _ _ (by omega))).trans h125_4
          have h126_5 : g_5 126 = .inl (cy 1, 201, .inl (fun x9 => nI (NN x9))) := ((congrFun eg_5 _).trans (va_up_ne _ _ (by omega))).trans h126_4
          have h127_5 : g_5 127 = .inl (cy 1, 5, .inl (fun x9 => nI (BG x9))) := ((congrFun eg_5 _).trans (va_up_ne _ _ (by omega))).trans h127_4
          have h128_5 : g_5 128 = .inl (cy 1, 5, .inl (fun x9 => nI (RD x9))) := ((congrFun eg_5 _).trans (va_up_ne _ _ (by omega))).trans h128_4
          have h122_5 : g_5 122 = .inl (cy 1, 8, .inl (fun x9 => nI (BY x9))) := ((congrFun eg_5 _).trans (va_up_ne _ _ (by omega))).trans h122_4
          have h123_5 : g_5 123 = .inl (cy 1, 1600, .inl (fun x9 => nI (BS x9))) := ((congrFun eg_5 _).trans (va_up_ne _ _ (by omega))).trans h123_4
          have h124_5 : g_5 124 = .inl (cy 1, 1600, .inl (fun x9 => nI (BN x9))) := ((congrFun eg_5 _).trans (va_up_ne _ _ (by omega))).trans h124_4
          have hfr_5 : ∀ j : Nat, j ≠ 114 → j ≠ 129 → g_5 j = g j := fun j n0 n1 => ((congrFun eg_5 _).trans (va_up_ne _ _ n1)).trans (hfr_4 j n0)
          refine lv_aload_n hx hb dX10_opens_90 rfl (lv_at hl 1 rfl) ?_
          refine lv_dup hx hb dX10_opens_91 rfl ?_
          refine mg S hK hP (by omega) h114_5 fd_X10_269 rfl dX10_opens_92 ?_
          refine lv_iconst (v := nI (1)) hx hb dX10_opens_95 (by decide) ?_
          refine lv_iadd hx hb dX10_opens_96 ?_
          refine tpi (nI_add dp 1) ?_
          refine mp S hK hP hI hS (by omega) h114_5 fd_X10_269 rfl rfl (Nat.le_of_ble_eq_true rfl) dX10_opens_97 (fun g_6 H locs eg_6 hP hS => ?_)
          have h114_6 : g_6 114 = mob ad (nI (n)) (nI (fa)) (nI (he)) (lN ov) (nI (un)) la bo (nI (tp)) ft (nI (wr6)) (nI (wa6)) (nI (at2_2)) (nI (sp2_2)) (nI (tk2_2)) vl2_2 (nI (fi)) (nI (nm)) (nI (dp + 1)) wy st (nI (aP)) (nI (aF)) (nI (aH)) (lN aO) (nI (ps)) (nI (mn)) go (nI (vi)) := by rw [eg_6, va_up_self]; exact rfl
          have h121_6 : g_6 121 = .inl (cy 1, 160, .inl (fun x9 => nI (TP x9))) := ((congrFun eg_6 _).trans (va_up_ne _ _ (by omega))).trans h121_5
          have h125_6 : g_6 125 = .inl (cy 1, 201, .inl (fun x9 => nI (NS x9))) := ((congrFun eg_6 _).trans (va_up_ne _ _ (by omega))).trans h125_5
          have h126_6 : g_6 126 = .inl (cy 1, 201, .inl (fun x9 => nI (NN x9))) := ((congrFun eg_6 _).trans (va_up_ne _ _ (by omega))).trans h126_5
          have h127_6 : g_6 127 = .inl (cy 1, 5, .inl (fun x9 => nI (BG x9))) := ((congrFun eg_6 _).trans (va_up_ne _ _ (by omega))).trans h127_5
          have h128_6 : g_6 128 = .inl (cy 1, 5, .inl (fun x9 => nI (RD x9))) := ((congrFun eg_6 _).trans (va_up_ne _ _ (by omega))).trans h128_5
          have h129_6 : g_6 129 = .inl (cy 1, 5, .inl (fun x9 => nI ((va_up IT dp (IT dp + 1)) x9))) := ((congrFun eg_6 _).trans (va_up_ne _ _ (by omega))).trans h129_5
          have h122_6 : g_6 122 = .inl (cy 1, 8, .inl (fun x9 => nI (BY x9))) := ((congrFun eg_6 _).trans (va_up_ne _ _ (by omega))).trans h122_5
          have h123_6 : g_6 123 = .inl (cy 1, 1600, .inl (fun x9 => nI (BS x9))) := ((congrFun eg_6 _).trans (va_up_ne _ _ (by omega))).trans h123_5
          have h124_6 : g_6 124 = .inl (cy 1, 1600, .inl (fun x9 => nI (BN x9))) := ((congrFun eg_6 _).trans (va_up_ne _ _ (by omega))).trans h124_5
          have hfr_6 : ∀ j : Nat, j ≠ 114 → j ≠ 129 → g_6 j = g j := fun j n0 n1 => ((congrFun eg_6 _).trans (va_up_ne _ _ n0)).trans (hfr_5 j n0 n1)
          refine lv_aload_n hx hb dX10_opens_100 rfl (lv_at hl 1 rfl) ?_
          refine mg S hK hP (by omega) h114_6 fd_X10_63 rfl dX10_opens_101 ?_
          refine lv_aload_n hx hb dX10_opens_104 rfl (lv_at hl 1 rfl) ?_
          refine mg S hK hP (by omega) h114_6 fd_X10_269 rfl dX10_opens_105 ?_
          refine lv_iconst (v := nI (0)) hx hb dX10_opens_108 (by decide) ?_
          refine mias S hK hP hI hS (by omega) h129_6 (vp_in_nI (by omega) (by omega)) dX10_opens_109 (fun g_7 H locs eg_7 hP hS => ?_)
          have h129_7 : g_7 129 = .inl (cy 1, 5, .inl (fun x9 => nI ((va_up (va_up IT dp (IT dp + 1)) (dp + 1) 0) x9))) := by rw [eg_7, va_up_self]; exact (arrN_up (by omega))
          have h114_7 : g_7 114 = mob ad (nI (n)) (nI (fa)) (nI (he)) (lN ov) (nI (un)) la bo (nI (tp)) ft (nI (wr6)) (nI (wa6)) (nI (at2_2)) (nI (sp2_2)) (nI (tk2_2)) vl2_2 (nI (fi)) (nI (nm)) (nI (dp + 1)) wy st (nI (aP)) (nI (aF)) (nI (aH)) (lN aO) (nI (ps)) (nI (mn)) go (nI (vi)) := ((congrFun eg_7 _).trans (va_up_ne _ _ (by omega))).trans h114_6
          have h121_7 : g_7 121 = .inl (cy 1, 160, .inl (fun x9 => nI (TP x9))) := ((congrFun eg_7 _).trans (va_up_ne _ _ (by omega))).trans h121_6
          have h125_7 : g_7 125 = .inl (cy 1, 201, .inl (fun x9 => nI (NS x9))) := ((congrFun eg_7 _).trans (va_up_ne _ _ (by omega))).trans h125_6
          have h126_7 : g_7 126 = .inl (cy 1, 201, .inl (fun x9 => nI (NN x9))) := ((congrFun eg_7 _).trans (va_up_ne _ _ (by omega))).trans h126_6
          have h127_7 : g_7 127 = .inl (cy 1, 5, .inl (fun x9 => nI (BG x9))) := ((congrFun eg_7 _).trans (va_up_ne _ _ (by omega))).trans h127_6
          have h128_7 : g_7 128 = .inl (cy 1, 5, .inl (fun x9 => nI (RD x9))) := ((congrFun eg_7 _).trans (va_up_ne _ _ (by omega))).trans h128_6
          have h122_7 : g_7 122 = .inl (cy 1, 8, .inl (fun x9 => nI (BY x9))) := ((congrFun eg_7 _).trans (va_up_ne _ _ (by omega))).trans h122_6
          have h123_7 : g_7 123 = .inl (cy 1, 1600, .inl (fun x9 => nI (BS x9))) := ((congrFun eg_7 _).trans (va_up_ne _ _ (by omega))).trans h123_6
          have h124_7 : g_7 124 = .inl (cy 1, 1600, .inl (fun x9 => nI (BN x9))) := ((congrFun eg_7 _).trans (va_up_ne _ _ (by omega))).trans h124_6
          have hfr_7 : ∀ j : Nat, j ≠ 114 → j ≠ 129 → g_7 j = g j := fun j n0 n1 => ((congrFun eg_7 _).trans (va_up_ne _ _ n1)).trans (hfr_6 j n0 n1)
          refine lv_aload_n hx hb dX10_opens_110 rfl (lv_at hl 1 rfl) ?_
          refine mg S hK hP (by omega) h114_7 fd_X10_57 rfl dX10_opens_111 ?_
          refine lv_aload_n hx hb dX10_opens_114 rfl (lv_at hl 1 rfl) ?_
          refine mg S hK hP (by omega) h114_7 fd_X10_269 rfl dX10_opens_115 ?_
          refine lv_aload_n hx hb dX10_opens_118 rfl (lv_at hl 1 rfl) ?_
          refine mg S hK hP (by omega) h114_7 fd_X10_256 rfl dX10_opens_119 ?_
          refine mias S hK hP hI hS (by omega) h127_7 (vp_in_nI (by omega) (by omega)) dX10_opens_122 (fun g_8 H locs eg_8 hP hS => ?_)
          have h127_8 : g_8 127 = .inl (cy 1, 5, .inl (fun x9 => nI ((va_up BG (dp + 1) nm) x9))) := by rw [eg_8, va_up_self]; exact (arrN_up (by omega))
          have h114_8 : g_8 114 = mob ad (nI (n)) (nI (fa)) (nI (he)) (lN ov) (nI (un)) la bo (nI (tp)) ft (nI (wr6)) (nI (wa6)) (nI (at2_2)) (nI (sp2_2)) (nI (tk2_2)) vl2_2 (nI (fi)) (nI (nm)) (nI (dp + 1)) wy st (nI (aP)) (nI (aF)) (nI (aH)) (lN aO) (nI (ps)) (nI (mn)) go (nI (vi)) := ((congrFun eg_8 _).trans (va_up_ne _ _ (by omega))).trans h114_7
          have h121_8 : g_8 121 = .inl (cy 1, 160, .inl (fun x9 => nI (TP x9))) := ((congrFun eg_8 _).trans (va_up_ne _ _ (by omega))).trans h121_7
          have h125_8 : g_8 125 = .inl (cy 1, 201, .inl (fun x9 => nI (NS x9))) := ((congrFun eg_8 _).trans (va_up_ne _ _ (by omega))).trans h125_7
          have h126_8 : g_8 126 = .inl (cy 1, 201, .inl (fun x9 => nI (NN x9))) := ((congrFun eg_8 _).trans (va_up_ne _ _ (by omega))).trans h126_7
          have h128_8 : g_8 128 = .inl (cy 1, 5, .inl (fun x9 => nI (RD x9))) := ((congrFun eg_8 _).trans (va_up_ne _ _ (by omega))).trans h128_7
          have h129_8 : g_8 129 = .inl (cy 1, 5, .inl (fun x9 => nI ((va_up (va_up IT dp (IT dp + 1)) (dp + 1) 0) x9))) := ((congrFun eg_8 _).trans (va_up_ne _ _ (by omega))).trans h129_7
          have h122_8 : g_8 122 = .inl (cy 1, 8, .inl (fun x9 => nI (BY x9))) := ((congrFun eg_8 _).trans (va_up_ne _ _ (by omega))).trans h122_7
          have h123_8 : g_8 123 = .inl (cy 1, 1600, .inl (fun x9 => nI (BS x9))) := ((congrFun eg_8 _).trans (va_up_ne _ _ (by omega))).trans h123_7
          have h124_8 : g_8 124 = .inl (cy 1, 1600, .inl (fun x9 => nI (BN x9))) := ((congrFun eg_8 _).trans (va_up_ne _ _ (by omega))).trans h124_7
          have hfr_8 : ∀ j : Nat, j ≠ 114 → j ≠ 129 → j ≠ 127 → g_8 j = g j := fun j n0 n1 n2 => ((congrFun eg_8 _).trans (va_up_ne _ _ n2)).trans (hfr_7 j n0 n1)
          refine lv_aload_n hx hb dX10_opens_123 rfl (lv_at hl 1 rfl) ?_
          refine mg S hK hP (by omega) h114_8 fd_X10_60 rfl dX10_opens_124 ?_
          refine lv_aload_n hx hb dX10_opens_127 rfl (lv_at hl 1 rfl) ?_
          refine mg S hK hP (by omega) h114_8 fd_X10_269 rfl dX10_opens_128 ?_
          refine lv_iload_n hx hb dX10_opens_131 rfl (lv_at hl 0 rfl) ?_
          refine mias S hK hP hI hS (by omega) h128_8 (vp_in_nI (by omega) (by omega)) dX10_opens_132 (fun g_9 H locs eg_9 hP hS => ?_)
          have h128_9 : g_9 128 = .inl (cy 1, 5, .inl (fun x9 => nI ((va_up RD (dp + 1) tv) x9))) := by rw [eg_9, va_up_self]; exact (arrN_up (by omega))
          have h114_9 : g_9 114 = mob ad (nI (n)) (nI (fa)) (nI (he)) (lN ov) (nI (un)) la bo (nI (tp)) ft (nI (wr6)) (nI (wa6)) (nI (at2_2)) (nI (sp2_2)) (nI (tk2_2)) vl2_2 (nI (fi)) (nI (nm)) (nI (dp + 1)) wy st (nI (aP)) (nI (aF)) (nI (aH)) (lN aO) (nI (ps)) (nI (mn)) go (nI (vi)) := ((congrFun eg_9 _).trans (va_up_ne _ _ (by omega))).trans h114_8
          have h121_9 : g_9 121 = .inl (cy 1, 160, .inl (fun x9 => nI (TP x9))) := ((congrFun eg_9 _).trans (va_up_ne _ _ (by omega))).trans h121_8
          have h125_9 : g_9 125 = .inl (cy 1, 201, .inl (fun x9 => nI (NS x9))) := ((congrFun eg_9 _).trans (va_up_ne _ _ (by omega))).trans h125_8
          have h126_9 : g_9 126 = .inl (cy 1, 201, .inl (fun x9 => nI (NN x9))) := ((congrFun eg_9 _).trans (va_up_ne _ _ (by omega))).trans h126_8
          have h127_9 : g_9 127 = .inl (cy 1, 5, .inl (fun x9 => nI ((va_up BG (dp + 1) nm) x9))) := ((congrFun eg_9 _).trans (va_up_ne _ _ (by omega))).trans h127_8
          have h129_9 : g_9 129 = .inl (cy 1, 5, .inl (fun x9 => nI ((va_up (va_up IT dp (IT dp + 1)) (dp + 1) 0) x9))) := ((congrFun eg_9 _).trans (va_up_ne _ _ (by omega))).trans h129_8
          have h122_9 : g_9 122 = .inl (cy 1, 8, .inl (fun x9 => nI (BY x9))) := ((congrFun eg_9 _).trans (va_up_ne _ _ (by omega))).trans h122_8
          have h123_9 : g_9 123 = .inl (cy 1, 1600, .inl (fun x9 => nI (BS x9))) := ((congrFun eg_9 _).trans (va_up_ne _ _ (by omega))).trans h123_8
          have h124_9 : g_9 124 = .inl (cy 1, 1600, .inl (fun x9 => nI (BN x9))) := ((congrFun eg_9 _).trans (va_up_ne _ _ (by omega))).trans h124_8
          have hfr_9 : ∀ j : Nat, j ≠ 114 → j ≠ 129 → j ≠ 127 → j ≠ 128 → g_9 j = g j := fun j n0 n1 n2 n3 => ((congrFun eg_9 _).trans (va_up_ne _ _ n3)).trans (hfr_8 j n0 n1 n2)
          refine lv_aload_n hx hb dX10_opens_133 rfl (lv_at hl 1 rfl) ?_
          refine kMv (As := []) (rest := []) S hK hP hS (fun _ h => h) (c_X10_next l D cy ad N g_9 hinj (by omega) n fa he ov un la bo tp ft wr6 wa6 at2_2 sp2_2 tk2_2 vl2_2 fi nm (dp + 1) wy st aP aF aH aO ps mn go vi h114_9 TP h121_9 T htp hTT hT (by omega) (by rw [hLw.2.2.2.2.2]; exact hnb.2.1)) cv_X10_259 (by omega) h114_9 ⟨_, _, rfl⟩ ⟨rfl, rfl⟩ rfl hl.1 rfl (Nat.le_of_ble_eq_true rfl) ⟨Nat.zero_le _, Nat.zero_le _⟩ dX10_opens_134 (fun g_10 H locs q_10 hP hS => ?_)
          obtain ⟨at2_10, sp2_10, tk2_10, vl2_10, wr2_10, wa2_10, hNX_10, h114_10, f_10⟩ := q_10
          have h121_10 : g_10 121 = .inl (cy 1, 160, .inl (fun x9 => nI (TP x9))) := (f_10 121 (by omega)).trans h121_9
          have h125_10 : g_10 125 = .inl (cy 1, 201, .inl (fun x9 => nI (NS x9))) := (f_10 125 (by omega)).trans h125_9
          have h126_10 : g_10 126 = .inl (cy 1, 201, .inl (fun x9 => nI (NN x9))) := (f_10 126 (by omega)).trans h126_9
          have h127_10 : g_10 127 = .inl (cy 1, 5, .inl (fun x9 => nI ((va_up BG (dp + 1) nm) x9))) := (f_10 127 (by omega)).trans h127_9
          have h128_10 : g_10 128 = .inl (cy 1, 5, .inl (fun x9 => nI ((va_up RD (dp + 1) tv) x9))) := (f_10 128 (by omega)).trans h128_9
          have h129_10 : g_10 129 = .inl (cy 1, 5, .inl (fun x9 => nI ((va_up (va_up IT dp (IT dp + 1)) (dp + 1) 0) x9))) := (f_10 129 (by omega)).trans h129_9
          have h122_10 : g_10 122 = .inl (cy 1, 8, .inl (fun x9 => nI (BY x9))) := (f_10 122 (by omega)).trans h122_9
          have h123_10 : g_10 123 = .inl (cy 1, 1600, .inl (fun x9 => nI (BS x9))) := (f_10 123 (by omega)).trans h123_9
          have h124_10 : g_10 124 = .inl (cy 1, 1600, .inl (fun x9 => nI (BN x9))) := (f_10 124 (by omega)).trans h124_9
          have hfr_10 : ∀ j : Nat, j ≠ 114 → j ≠ 129 → j ≠ 127 → j ≠ 128 → g_10 j = g j := fun j n0 n1 n2 n3 => (f_10 j n0).trans (hfr_9 j n0 n1 n2 n3)
          have hY : LXR T tp at2_2 at2_10 sp2_10 tk2_10 vl2_10 wr2_10 wa2_10 := (hNX_10.resolve_left (fun z => z.1 h4.2.1)).2
          exact rMv S hr hlk hP hS ⟨_, _, _, _, _, _, _, _, _, _, (Or.inr ⟨h5.1, Or.inr ⟨h4.1, by rw [h4.2.2.1, opn_y h4.2.2.2]; exact MPR_op (p := nuP tv p9) (MPR_c hM9 hK1 rfl rfl rfl rfl rfl rfl rfl) h4.2.2.2 (show tv ≤ 20 by omega) (by omega), by rw [← hLw.2.2.2.2.2]; exact hY⟩⟩), h114_10, h127_10, h128_10, h129_10, (fun j n0 n1 n2 n3 => hfr_10 j (by omega) (by omega) (by omega) (by omega))⟩ dX10_opens_137
        · skip
          have c_73 := (not_congr (z_le (by omega))).mp c_73
          have h5 : ((tv < 1 ∨ 20 < tv) ∧ wr6 = 3 ∧ wa6 = sp) ∨ (¬ (tv < 1 ∨ 20 < tv) ∧ ¬ (tkAny Fl FB fi (lxK T tp at0) (lxV T tp at0) (nuP tv p9)).1 = 0 ∧ wr6 = (tkAny Fl FB fi (lxK T tp at0) (lxV T tp at0) (nuP tv p9)).1 ∧ wa6 = lxP T tp at0) := by rcases h69 with z | ⟨z1, z2, z3⟩; exact Or.inl z; (rcases z3 with y | ⟨y1, y2, y3⟩; exact Or.inr ⟨z1, y⟩; exact absurd y2 c_73)
          exact rMv S hr hlk hP hS ⟨dp, BG, RD, IT, _, _, _, _, _, _, (h5.elim (fun z => Or.inl z) (fun z => Or.inr ⟨z.1, Or.inl z.2⟩)), h114_4, h127_4, h128_4, h129_4, (fun j n0 n1 n2 n3 => hfr_4 j (by omega))⟩ dX10_opens_76
      refine lv_if_ne (tgt := 69) hx hb dX10_opens_53 (by decide) (fun c_53 => ?_) (fun c_53 => ?_)
      · skip
        have c_53 := (not_congr (z_eq (by omega))).mp c_53
        exact J69 wr5 wa5 (by rcases h49 with z | ⟨z1, z2, z3⟩; exact Or.inl z; (rcases z3 with ⟨y1, y2, y3⟩ | ⟨y0, y1, y2, y3⟩ | ⟨y1, y2⟩; exact Or.inr ⟨z1, z2, Or.inl (by rw [y1, num_6]; exact ⟨by decide, y2, y3⟩)⟩; exact Or.inr ⟨z1, z2, Or.inl (by rw [opn_n y0 y1]; exact ⟨by decide, y2, y3⟩)⟩; exact absurd y2 c_53)) (by omega) g_3 _ _ h114_3 hfr_3 hP hS _ (lv_sub hl [0, 1] rfl)
      · skip
        have c_53 := (z_eq (by omega)).mp c_53
        refine lv_aload_n hx hb dX10_opens_56 rfl (lv_at hl 1 rfl) ?_
        refine mg S hK hP (by omega) h114_3 fd_X10_269 rfl dX10_opens_57 ?_
        refine lv_iconst (v := nI (4)) hx hb dX10_opens_60 (by decide) ?_
        refine lv_icmp_ne (tgt := 69) hx hb dX10_opens_61 (by decide) (fun c_61 => ?_) (fun c_61 => ?_)
        · skip
          have c_61 := (not_congr (nI_eq (by omega) (by omega))).mp c_61
          exact J69 wr5 wa5 (by rcases h49 with z | ⟨z1, z2, z3⟩; exact absurd z.2.1 (by omega); (rcases z3 with ⟨y1, y2, y3⟩ | ⟨y0, y1, y2, y3⟩ | ⟨y1, y2⟩; omega; omega; exact Or.inr ⟨z1, z2, Or.inr ⟨by rw [y1, opn_y (by omega)], c_53, y1, by omega⟩⟩)) (by omega) g_3 _ _ h114_3 hfr_3 hP hS _ (lv_sub hl [0, 1] rfl)
        · skip
          have c_61 := (nI_eq (by omega) (by omega)).mp c_61
          refine lv_aload_n hx hb dX10_opens_64 rfl (lv_at hl 1 rfl) ?_
          refine lv_iconst (v := nI (4)) hx hb dX10_opens_65 (by decide) ?_
          refine kMv (As := [.int (nI (4))]) (rest := []) S hK hP hS (fun _ h => h) (c_X10_fails l D cy ad N g_3 hinj (by omega) n fa he ov un la bo tp ft wr5 wa5 at2_2 sp2_2 tk2_2 vl2_2 fi nm dp wy st aP aF aH aO ps mn go vi h114_3 (by omega) 4) cv_X10_250 (by omega) h114_3 ⟨_, _, rfl⟩ ⟨rfl, rfl⟩ rfl hl.1 rfl (Nat.le_of_ble_eq_true rfl) ⟨Nat.zero_le _, Nat.zero_le _⟩ dX10_opens_66 (fun g_11 H locs q_11 hP hS => ?_)
          obtain ⟨h114_11, f_11⟩ := q_11
          have h121_11 : g_11 121 = .inl (cy 1, 160, .inl (fun x9 => nI (TP x9))) := (f_11 121 (by omega)).trans h121_3
          have h125_11 : g_11 125 = .inl (cy 1, 201, .inl (fun x9 => nI (NS x9))) := (f_11 125 (by omega)).trans h125_3
          have h126_11 : g_11 126 = .inl (cy 1, 201, .inl (fun x9 => nI (NN x9))) := (f_11 126 (by omega)).trans h126_3
          have h127_11 : g_11 127 = .inl (cy 1, 5, .inl (fun x9 => nI (BG x9))) := (f_11 127 (by omega)).trans h127_3
          have h128_11 : g_11 128 = .inl (cy 1, 5, .inl (fun x9 => nI (RD x9))) := (f_11 128 (by omega)).trans h128_3
          have h129_11 : g_11 129 = .inl (cy 1, 5, .inl (fun x9 => nI (IT x9))) := (f_11 129 (by omega)).trans h129_3
          have h122_11 : g_11 122 = .inl (cy 1, 8, .inl (fun x9 => nI (BY x9))) := (f_11 122 (by omega)).trans h122_3
          have h123_11 : g_11 123 = .inl (cy 1, 1600, .inl (fun x9 => nI (BS x9))) := (f_11 123 (by omega)).trans h123_3
          have h124_11 : g_11 124 = .inl (cy 1, 1600, .inl (fun x9 => nI (BN x9))) := (f_11 124 (by omega)).trans h124_3
          have hfr_11 : ∀ j : Nat, j ≠ 114 → g_11 j = g j := fun j n0 => (f_11 j n0).trans (hfr_3 j n0)
          exact J69 (if wr5 = 0 then 4 else wr5) (if wr5 = 0 then sp2_2 else wa5) (by rcases h49 with z | ⟨z1, z2, z3⟩; exact absurd z.2.1 (by omega); (rcases z3 with ⟨y1, y2, y3⟩ | ⟨y0, y1, y2, y3⟩ | ⟨y1, y2⟩; omega; omega; exact Or.inr ⟨z1, z2, Or.inl (by rw [y1, opn_o (by omega)]; exact ⟨by decide, if_pos c_53, by rw [if_pos c_53]; exact (LXR_w z2).2.2.2.1⟩)⟩)) (by rw [if_pos c_53]; omega) g_11 _ _ h114_11 hfr_11 hP hS _ (lv_sub hl [0, 1] rfl)
    refine lv_if_ne (tgt := 49) hx hb dX10_opens_33 (by decide) (fun c_33 => ?_) (fun c_33 => ?_)
    · skip
      have c_33 := (not_congr (z_eq (by omega))).mp c_33
      exact J49 wr2_2 wa2_2 (by rcases hX with ⟨q1, q2, q3, q4, q5, q6, q7⟩ | ⟨q1, q2⟩; (rcases h20 with z | z; exact Or.inl ⟨z.1, by omega, by rw [q7]; exact z.2.2⟩; exact absurd z.2 q1); (rcases h20 with z | z; exact absurd z.2.1 (by omega); exact Or.inr ⟨z.1, q2, Or.inl ⟨Decidable.byContradiction (fun y => c_33 ((LXR_w q2).2.2.1.mpr y)), ((LXR_w q2).2.2.2.2.1 c_33).1, ((LXR_w q2).2.2.2.2.1 c_33).2⟩⟩)) (by omega) g_2 _ _ h114_2 hfr_2 hP hS _ (lv_sub hl [0, 1] rfl)
    · skip
      have c_33 := (z_eq (by omega)).mp c_33
      refine lv_aload_n hx hb dX10_opens_36 rfl (lv_at hl 1 rfl) ?_
      refine mg S hK hP (by omega) h114_2 fd_X10_240 rfl dX10_opens_37 ?_
      refine lv_iconst (v := nI (3)) hx hb dX10_opens_40 (by decide) ?_
      refine lv_icmp_eq (tgt := 49) hx hb dX10_opens_41 (by decide) (fun c_41 => ?_) (fun c_41 => ?_)
      · skip
        have c_41 := (nI_eq (by omega) (by omega)).mp c_41
        exact J49 wr2_2 wa2_2 (by rcases hX with ⟨q1, q2, q3, q4, q5, q6, q7⟩ | ⟨q1, q2⟩; exact absurd (q6 ▸ c_33) q1; (rcases h20 with z | z; exact absurd z.2.1 (by omega); exact Or.inr ⟨z.1, q2, Or.inr (Or.inr ⟨(LXR_k3 q2 ((LXR_w q2).2.2.1.mp c_33)).mp c_41, c_33⟩)⟩)) (by omega) g_2 _ _ h114_2 hfr_2 hP hS _ (lv_sub hl [0, 1] rfl)
      · skip
        have c_41 := (not_congr (nI_eq (by omega) (by omega))).mp c_41
        refine lv_aload_n hx hb dX10_opens_44 rfl (lv_at hl 1 rfl) ?_
        refine lv_iconst (v := nI (2)) hx hb dX10_opens_45 (by decide) ?_
        refine kMv (As := [.int (nI (2))]) (rest := []) S hK hP hS (fun _ h => h) (c_X10_fails l D cy ad N g_2 hinj (by omega) n fa he ov un la bo tp ft wr2_2 wa2_2 at2_2 sp2_2 tk2_2 vl2_2 fi nm dp wy st aP aF aH aO ps mn go vi h114_2 (by omega) 2) cv_X10_250 (by omega) h114_2 ⟨_, _, rfl⟩ ⟨rfl, rfl⟩ rfl hl.1 rfl (Nat.le_of_ble_eq_true rfl) ⟨Nat.zero_le _, Nat.zero_le _⟩ dX10_opens_46 (fun g_12 H locs q_12 hP hS => ?_)
        obtain ⟨h114_12, f_12⟩ := q_12
        have h121_12 : g_12 121 = .inl (cy 1, 160, .inl (fun x9 => nI (TP x9))) := (f_12 121 (by omega)).trans h121_2
        have h125_12 : g_12 125 = .inl (cy 1, 201, .inl (fun x9 => nI (NS x9))) := (f_12 125 (by omega)).trans h125_2
        have h126_12 : g_12 126 = .inl (cy 1, 201, .inl (fun x9 => nI (NN x9))) := (f_12 126 (by omega)).trans h126_2
        have h127_12 : g_12 127 = .inl (cy 1, 5, .inl (fun x9 => nI (BG x9))) := (f_12 127 (by omega)).trans h127_2
        have h128_12 : g_12 128 = .inl (cy 1, 5, .inl (fun x9 => nI (RD x9))) := (f_12 128 (by omega)).trans h128_2
        have h129_12 : g_12 129 = .inl (cy 1, 5, .inl (fun x9 => nI (IT x9))) := (f_12 129 (by omega)).trans h129_2
        have h122_12 : g_12 122 = .inl (cy 1, 8, .inl (fun x9 => nI (BY x9))) := (f_12 122 (by omega)).trans h122_2
        have h123_12 : g_12 123 = .inl (cy 1, 1600, .inl (fun x9 => nI (BS x9))) := (f_12 123 (by omega)).trans h123_2
        have h124_12 : g_12 124 = .inl (cy 1, 1600, .inl (fun x9 => nI (BN x9))) := (f_12 124 (by omega)).trans h124_2
        have hfr_12 : ∀ j : Nat, j ≠ 114 → g_12 j = g j := fun j n0 => (f_12 j n0).trans (hfr_2 j n0)
        exact J49 (if wr2_2 = 0 then 2 else wr2_2) (if wr2_2 = 0 then sp2_2 else wa2_2) (by rcases hX with ⟨q1, q2, q3, q4, q5, q6, q7⟩ | ⟨q1, q2⟩; exact absurd (q6 ▸ c_33) q1; (rcases h20 with z | z; exact absurd z.2.1 (by omega); exact Or.inr ⟨z.1, q2, Or.inr (Or.inl ⟨(LXR_w q2).2.2.1.mp c_33, fun y => c_41 ((LXR_k3 q2 ((LXR_w q2).2.2.1.mp c_33)).mpr y), if_pos c_33, by rw [if_pos c_33]; exact (LXR_w q2).2.2.2.1⟩)⟩)) (by rw [if_pos c_33]; omega) g_12 _ _ h114_12 hfr_12 hP hS _ (lv_sub hl [0, 1] rfl)
  refine lv_if_ne (tgt := 20) hx hb dX10_opens_12 (by decide) (fun c_12 => ?_) (fun c_12 => ?_)
  · skip
    have c_12 := bz_ne.mp c_12
    exact J20 0 wa (Or.inr ⟨by omega, rfl⟩) g _ _ hM (fun j n0 => hfr j ) hP hS _ (lv_sub hl [0] rfl)
  · skip
    have c_12 := bz_eq.mp c_12
    refine lv_aload_n hx hb dX10_opens_15 rfl (lv_at hl 0 rfl) ?_
    refine lv_iconst (v := nI (3)) hx hb dX10_opens_16 (by decide) ?_
    refine kMv (As := [.int (nI (3))]) (rest := []) S hK hP hS (fun _ h => h) (c_X10_fails l D cy ad N g hinj (by omega) n fa he ov un la bo tp ft 0 wa at0 sp tk (nI (tv)) fi nm dp wy st aP aF aH aO ps mn go vi hM (by decide) 3) cv_X10_250 (by omega) hM ⟨_, _, rfl⟩ ⟨rfl, rfl⟩ rfl hl.1 rfl (Nat.le_of_ble_eq_true rfl) ⟨Nat.zero_le _, Nat.zero_le _⟩ dX10_opens_17 (fun g_13 H locs q_13 hP hS => ?_)
    obtain ⟨h114_13, f_13⟩ := q_13
    have h121_13 : g_13 121 = .inl (cy 1, 160, .inl (fun x9 => nI (TP x9))) := (f_13 121 (by omega)).trans hTP
    have h125_13 : g_13 125 = .inl (cy 1, 201, .inl (fun x9 => nI (NS x9))) := (f_13 125 (by omega)).trans hNS
    have h126_13 : g_13 126 = .inl (cy 1, 201, .inl (fun x9 => nI (NN x9))) := (f_13 126 (by omega)).trans hNN
    have h127_13 : g_13 127 = .inl (cy 1, 5, .inl (fun x9 => nI (BG x9))) := (f_13 127 (by omega)).trans hBG
    have h128_13 : g_13 128 = .inl (cy 1, 5, .inl (fun x9 => nI (RD x9))) := (f_13 128 (by omega)).trans hRD
    have h129_13 : g_13 129 = .inl (cy 1, 5, .inl (fun x9 => nI (IT x9))) := (f_13 129 (by omega)).trans hIT
    have h122_13 : g_13 122 = .inl (cy 1, 8, .inl (fun x9 => nI (BY x9))) := (f_13 122 (by omega)).trans hBY
    have h123_13 : g_13 123 = .inl (cy 1, 1600, .inl (fun x9 => nI (BS x9))) := (f_13 123 (by omega)).trans hBS
    have h124_13 : g_13 124 = .inl (cy 1, 1600, .inl (fun x9 => nI (BN x9))) := (f_13 124 (by omega)).trans hBN
    have hfr_13 : ∀ j : Nat, j ≠ 114 → g_13 j = g j := fun j n0 => (f_13 j n0).trans (hfr j )
    exact J20 (if 0 = 0 then 3 else 0) (if 0 = 0 then sp else wa) (Or.inl ⟨by omega, rfl, rfl⟩) g_13 _ _ h114_13 hfr_13 hP hS _ (lv_sub hl [0] rfl)
set_option maxHeartbeats 4000000 in
set_option maxRecDepth 100000 in
theorem c_X10_shuts (l : Launch) (D : va_G) (cy : Nat → ClassId) (ad : Nat → Nat) (N : Nat) (g : Nat → va_E) (hinj : ∀ i j : Nat, i < N → j < N → ad i = ad j → i = j) (p9 : PS) (i9 : Nat) (hN : 145 ≤ N) (n : Nat) (fa : Nat) (he : Nat) (ov : Nat) (un : Nat) (la : Int32) (bo : Int32) (tp : Nat) (ft : Int32) (wa : Nat) (at0 : Nat) (sp : Nat) (tk : Nat) (vl : Int32) (fi : Nat) (nm : Nat) (dp : Nat) (wy : Int32) (st : Int32) (aP : Nat) (aF : Nat) (aH : Nat) (aO : Nat) (ps : Nat) (mn : Nat) (go : Int32) (vi : Nat) (hM : g 114 = mob ad (nI (n)) (nI (fa)) (nI (he)) (lN ov) (nI (un)) la bo (nI (tp)) ft (nI (0)) (nI (wa)) (nI (at0)) (nI (sp)) (nI (tk)) vl (nI (fi)) (nI (nm)) (nI (dp)) wy st (nI (aP)) (nI (aF)) (nI (aH)) (lN aO) (nI (ps)) (nI (mn)) go (nI (vi))) (TP : Nat → Nat) (hTP : g 121 = .inl (cy 1, 160, .inl (fun x9 => nI (TP x9)))) (T : Nat → Nat) (htp : tp ≤ 160) (hTT : ∀ i, i < tp → TP i = T i) (hT : ∀ i, T i < 256) (NS : Nat → Nat) (hNS : g 125 = .inl (cy 1, 201, .inl (fun x9 => nI (NS x9)))) (NN : Nat → Nat) (hNN : g 126 = .inl (cy 1, 201, .inl (fun x9 => nI (NN x9)))) (BG : Nat → Nat) (hBG : g 127 = .inl (cy 1, 5, .inl (fun x9 => nI (BG x9)))) (RD : Nat → Nat) (hRD : g 128 = .inl (cy 1, 5, .inl (fun x9 => nI (RD x9)))) (IT : Nat → Nat) (hIT : g 129 = .inl (cy 1, 5, .inl (fun x9 => nI (IT x9)))) (hat : at0 ≤ tp) (hM9 : MPR p9 i9 nm dp NS NN BG RD IT) (hi9 : i9 ≤ 200) : Met l yX10_shuts (WS yX10_shuts cX10_shuts 5 none) (rmF 2 46) (PP [.ref (ad 114)] D cy ad N g) (QV (fun g1 => ∃ (nm2 : Nat), ∃ (NS2 : Nat → Nat), ∃ (NN2 : Nat → Nat), ∃ (dp2 : Nat), ∃ (at2 : Nat), ∃ (sp2 : Nat), ∃ (tk2 : Nat), ∃ (vl2 : Int32), ∃ (wr2 : Nat), ∃ (wa2 : Nat), ((¬ (tkItem 3 0 p9).1 = 0 ∧ wr2 = (tkItem 3 0 p9).1 ∧ wa2 = sp) ∨ ((tkItem 3 0 p9).1 = 0 ∧ MPR (tkItem 3 0 p9).2 (i9 + 1) nm2 dp2 NS2 NN2 BG RD IT ∧ LXR T tp at0 at2 sp2 tk2 vl2 wr2 wa2)) ∧ g1 114 = mob ad (nI (n)) (nI (fa)) (nI (he)) (lN ov) (nI (un)) la bo (nI (tp)) ft (nI (wr2)) (nI (wa2)) (nI (at2)) (nI (sp2)) (nI (tk2)) vl2 (nI (fi)) (nI (nm2)) (nI (dp2)) wy st (nI (aP)) (nI (aF)) (nI (aH)) (lN aO) (nI (ps)) (nI (mn)) go (nI (vi)) ∧ g1 125 = .inl (cy 1, 201, .inl (fun x9 => nI (NS2 x9))) ∧ g1 126 = .inl (cy 1, 201, .inl (fun x9 => nI (NN2 x9))) ∧ (∀ j, j ≠ 114 → j ≠ 125 → j ≠ 126 → g1 j = g j)) D ad N) 0 0 (AA ad N) := by
  refine mentry (by decide) (Nat.le_of_ble_eq_true rfl) (fun p e s m below meth c ls S hr hlk hnm hP hK hl => ?_)
  have S : CallFix p m c cX10_shuts 5 s _ wsL_law RX10 := S
  have hx := S.1
  have hb := S.2.1
  have hl : lv_has ls 5 [(0, .ref (ad 114))] := hl
  have hI : MD (AA ad N) ad N := MD.in hinj
  have hS : va_S (AA ad N) s.heap s.heap [] := va_S.rf
  have hfr : ∀ j : Nat, g j = g j := fun _ => rfl
  have hdp := hM9.2.1
  have hem := hM9.2.2.2.2.1
  have hitb := hM9.2.2.2.2.2
  have hPK := hM9.1.2
  have hnm : nm ≤ 201 := by have h1 := hM9.1.1.1; have h4 := hM9.1.1.2.2.2.1; split at h4 <;> omega
  refine lv_aload_n hx hb dX10_shuts_0 rfl (lv_at hl 0 rfl) ?_
  refine mg S hK hP (by omega) hM fd_X10_269 rfl dX10_shuts_1 ?_
  refine lv_if_eq (tgt := 19) hx hb dX10_shuts_4 (by decide) (fun c_4 => ?_) (fun c_4 => ?_)
  · skip
    have c_4 := (z_eq (by omega)).mp c_4
    have hbad : ¬ pEm p9 = 0 ∨ pOp p9 = 0 := Or.inr (by omega)
    refine lv_aload_n hx hb dX10_shuts_19 rfl (lv_at hl 0 rfl) ?_
    refine lv_iconst (v := nI (2)) hx hb dX10_shuts_20 (by decide) ?_
    refine kMv (As := [.int (nI (2))]) (rest := []) S hK hP hS (fun _ h => h) (c_X10_fails l D cy ad N g hinj (by omega) n fa he ov un la bo tp ft 0 wa at0 sp tk vl fi nm dp wy st aP aF aH aO ps mn go vi hM (by decide) 2) cv_X10_250 (by omega) hM ⟨_, _, rfl⟩ ⟨rfl, rfl⟩ rfl hl.1 rfl (Nat.le_of_ble_eq_true rfl) ⟨Nat.zero_le _, Nat.zero_le _⟩ dX10_shuts_21 (fun g_1 H locs q_1 hP hS => ?_)
    obtain ⟨h114_1, f_1⟩ := q_1
    have h121_1 : g_1 121 = .inl (cy 1, 160, .inl (fun x9 => nI (TP x9))) := (f_1 121 (by omega)).trans hTP
    have h125_1 : g_1 125 = .inl (cy 1, 201, .inl (fun x9 => nI (NS x9))) := (f_1 125 (by omega)).trans hNS
    have h126_1 : g_1 126 = .inl (cy 1, 201, .inl (fun x9 => nI (NN x9))) := (f_1 126 (by omega)).trans hNN
    have h127_1 : g_1 127 = .inl (cy 1, 5, .inl (fun x9 => nI (BG x9))) := (f_1 127 (by omega)).trans hBG
    have h128_1 : g_1 128 = .inl (cy 1, 5, .inl (fun x9 => nI (RD x9))) := (f_1 128 (by omega)).trans hRD
    have h129_1 : g_1 129 = .inl (cy 1, 5, .inl (fun x9 => nI (IT x9))) := (f_1 129 (by omega)).trans hIT
    have hfr_1 : ∀ j : Nat, j ≠ 114 → g_1 j = g j := fun j n0 => (f_1 j n0).trans (hfr j )
    have hR := shu_n hbad
    exact rMv S hr hlk hP hS ⟨nm, NS, NN, dp, at0, sp, tk, vl, _, _, (Or.inl (by rw [hR]; exact ⟨(show ¬ (2 : Nat) = 0 by decide), rfl, rfl⟩)), h114_1, h125_1, h126_1, (fun j n0 n1 n2 => hfr_1 j (by omega))⟩ dX10_shuts_24
  · skip
    have c_4 := (not_congr (z_eq (by omega))).mp c_4
    refine lv_aload_n hx hb dX10_shuts_7 rfl (lv_at hl 0 rfl) ?_
    refine mg S hK hP (by omega) hM fd_X10_63 rfl dX10_shuts_8 ?_
    refine lv_aload_n hx hb dX10_shuts_11 rfl (lv_at hl 0 rfl) ?_
    refine mg S hK hP (by omega) hM fd_X10_269 rfl dX10_shuts_12 ?_
    refine mial S hK hP (by omega) hIT (vp_in_nI (by omega) (by omega)) dX10_shuts_15 ?_
    refine tpi (congrArg ((fun x9 => nI (IT x9))) (nI_clamp (by omega))) ?_
    have hit5 := hitb dp (by omega)
    refine lv_if_ne (tgt := 25) hx hb dX10_shuts_16 (by decide) (fun c_16 => ?_) (fun c_16 => ?_)
    · skip
      have c_16 := (not_congr (z_eq (by omega))).mp c_16
      have hem0 : pEm p9 = 0 := hem.mpr (by rw [← hdp.1]; omega)
      obtain ⟨d1, hd1⟩ : ∃ d1, dp = d1 + 1 := ⟨dp - 1, by omega⟩
      have hBGe : pOv p9 = 0 → BG dp = pSt p9 d1 := fun z => by rw [hd1]; exact hM9.2.2.1.1 z d1 (by omega)
      have hRDe := hM9.2.2.1.2.2 d1 (by omega)
      rw [← hd1] at hRDe
      have hBb := hM9.2.2.1.2.1 d1 (by omega)
      rw [← hd1] at hBb
      have hnm0 : pOv p9 = 0 → nm = pLen p9 := fun z => by have := hM9.1.1.2.2.2.1; rw [if_pos z] at this; exact this
      have hst := hPK.2.2.2.2 d1 (by omega)
      refine lv_aload_n hx hb dX10_shuts_25 rfl (lv_at hl 0 rfl) ?_
      refine mg S hK hP (by omega) hM fd_X10_57 rfl dX10_shuts_26 ?_
      refine lv_aload_n hx hb dX10_shuts_29 rfl (lv_at hl 0 rfl) ?_
      refine mg S hK hP (by omega) hM fd_X10_269 rfl dX10_shuts_30 ?_
      refine mial S hK hP (by omega) hBG (vp_in_nI (by omega) (by omega)) dX10_shuts_33 ?_
      refine tpi (congrArg ((fun x9 => nI (BG x9))) (nI_clamp (by omega))) ?_
      refine lv_istore_n (lv' := [(1, .int (nI (BG dp))), (0, .ref (ad 114))]) hx hb dX10_shuts_34 rfl hl (by decide) rfl (fun ls hl => ?_)
      refine lv_aload_n hx hb dX10_shuts_35 rfl (lv_at hl 1 rfl) ?_
      refine mg S hK hP (by omega) hM fd_X10_256 rfl dX10_shuts_36 ?_
      refine lv_istore_n (lv' := [(2, .int (nI (nm))), (1, .int (nI (BG dp))), (0, .ref (ad 114))]) hx hb dX10_shuts_39 rfl hl (by decide) rfl (fun ls hl => ?_)
      refine lv_iconst (v := nI (1)) hx hb dX10_shuts_40 (by decide) ?_
      refine lv_istore_n (lv' := [(3, .int (nI (1))), (2, .int (nI (nm))), (1, .int (nI (BG dp))), (0, .ref (ad 114))]) hx hb dX10_shuts_41 rfl hl (by decide) rfl (fun ls hl => ?_)
      have L42 : ∀ (fu : Nat) (c9 nmA : Nat) (NSA NNA : Nat → Nat), (c9 ≤ pTm p9 d1 - 1) → (NRt (pLen (clI (pSt p9 d1) (pLen p9) (opD p9) c9)) (pB (clI (pSt p9 d1) (pLen p9) (opD p9) c9)) (pOv (clI (pSt p9 d1) (pLen p9) (opD p9) c9)) nmA NSA NNA) → (pTm p9 d1 - c9) < fu → ∀ (g_2 : Nat → va_E) (H : Heap) (locs : List Loc), g_2 114 = mob ad (nI (n)) (nI (fa)) (nI (he)) (lN ov) (nI (un)) la bo (nI (tp)) ft (nI (0)) (nI (wa)) (nI (at0)) (nI (sp)) (nI (tk)) vl (nI (fi)) (nI (nmA)) (nI (dp)) wy st (nI (aP)) (nI (aF)) (nI (aH)) (lN aO) (nI (ps)) (nI (mn)) go (nI (vi)) → g_2 125 = .inl (cy 1, 201, .inl (fun x9 => nI (NSA x9))) → g_2 126 = .inl (cy 1, 201, .inl (fun x9 => nI (NNA x9))) → (∀ j : Nat, j ≠ 114 → j ≠ 125 → j ≠ 126 → g_2 j = g j) → MM D ad N g_2 H → va_S (AA ad N) s.heap H locs → ∀ (ls : Array Slot), lv_has ls 5 [(3, .int (nI (c9 + 1))), (2, .int (nI (nm))), (1, .int (nI (BG dp))), (0, .ref (ad 114))] → W p l e (rmF 2 46) s m [.ref (ad 114)].toArray below meth c H locs 0 0 (MQ below (QV (fun g1 => ∃ (nm2 : Nat), ∃ (NS2 : Nat → Nat), ∃ (NN2 : Nat → Nat), ∃ (dp2 : Nat), ∃ (at2 : Nat), ∃ (sp2 : Nat), ∃ (tk2 : Nat), ∃ (vl2 : Int32), ∃ (wr2 : Nat), ∃ (wa2 : Nat), ((¬ (tkItem 3 0 p9).1 = 0 ∧ wr2 = (tkItem 3 0 p9).1 ∧ wa2 = sp) ∨ ((tkItem 3 0 p9).1 = 0 ∧ MPR (tkItem 3 0 p9).2 (i9 + 1) nm2 dp2 NS2 NN2 BG RD IT ∧ LXR T tp at0 at2 sp2 tk2 vl2 wr2 wa2)) ∧ g1 114 = mob ad (nI (n)) (nI (fa)) (nI (he)) (lN ov) (nI (un)) la bo (nI (tp)) ft (nI (wr2)) (nI (wa2)) (nI (at2)) (nI (sp2)) (nI (tk2)) vl2 (nI (fi)) (nI (nm2)) (nI (dp2)) wy st (nI (aP)) (nI (aF)) (nI (aH)) (lN aO) (nI (ps)) (nI (mn)) go (nI (vi)) ∧ g1 125 = .inl (cy 1, 201, .inl (fun x9 => nI (NS2 x9))) ∧ g1 126 = .inl (cy 1, 201, .inl (fun x9 => nI (NN2 x9))) ∧ (∀ j, j ≠ 114 → j ≠ 125 → j ≠ 126 → g1 j = g j)) D ad N) [.ref (ad 114)].toArray s 0 0 (AA ad N)) (F0 m 42 ls []) := by
        intro fu
        induction fu with
        | zero => intro c9 nmA NSA NNA hc9 hnA hms g_2 H locs h114_2 h125_2 h126_2 hfr_2 hP hS ls hl; exact absurd hms (Nat.not_lt_zero _)
        | succ fu ih42 =>
          intro c9 nmA NSA NNA hc9 hnA hms g_2 H locs h114_2 h125_2 h126_2 hfr_2 hP hS ls hl
          have h121_2 : g_2 121 = .inl (cy 1, 160, .inl (fun x9 => nI (TP x9))) := (hfr_2 121 (by omega) (by omega) (by omega)).trans hTP
          have h127_2 : g_2 127 = .inl (cy 1, 5, .inl (fun x9 => nI (BG x9))) := (hfr_2 127 (by omega) (by omega) (by omega)).trans hBG
          have h128_2 : g_2 128 = .inl (cy 1, 5, .inl (fun x9 => nI (RD x9))) := (hfr_2 128 (by omega) (by omega) (by omega)).trans hRD
          have h129_2 : g_2 129 = .inl (cy 1, 5, .inl (fun x9 => nI (IT x9))) := (hfr_2 129 (by omega) (by omega) (by omega)).trans hIT
          refine lv_iload_n hx hb dX10_shuts_42 rfl (lv_at hl 0 rfl) ?_
          refine lv_aload_n hx hb dX10_shuts_43 rfl (lv_at hl 3 rfl) ?_
          refine mg S hK hP (by omega) h114_2 fd_X10_60 rfl dX10_shuts_44 ?_
          refine lv_aload_n hx hb dX10_shuts_47 rfl (lv_at hl 3 rfl) ?_
          refine mg S hK hP (by omega) h114_2 fd_X10_269 rfl dX10_shuts_48 ?_
          refine mial S hK hP (by omega) h128_2 (vp_in_nI (by omega) (by omega)) dX10_shuts_51 ?_
          refine tpi (congrArg ((fun x9 => nI (RD x9))) (nI_clamp (by omega))) ?_
          refine tpi (congrArg nI hRDe.1) ?_
          refine lv_icmp_ge (tgt := 94) hx hb dX10_shuts_52 (by decide) (fun c_52 => ?_) (fun c_52 => ?_)
          · skip
            have c_52 := (nI_leI (by omega) (by omega)).mp c_52
            refine lv_aload_n hx hb dX10_shuts_94 rfl (lv_at hl 3 rfl) ?_
            refine lv_dup hx hb dX10_shuts_95 rfl ?_
            refine mg S hK hP (by omega) h114_2 fd_X10_269 rfl dX10_shuts_96 ?_
            refine lv_iconst (v := nI (1)) hx hb dX10_shuts_99 (by decide) ?_
            refine lv_isub hx hb dX10_shuts_100 ?_
            refine tpi (pk_sub (a := dp) (b := 1) (by omega)) ?_
            refine mp S hK hP hI hS (by omega) h114_2 fd_X10_269 rfl rfl (Nat.le_of_ble_eq_true rfl) dX10_shuts_101 (fun g_3 H locs eg_3 hP hS => ?_)
            have h114_3 : g_3 114 = mob ad (nI (n)) (nI (fa)) (nI (he)) (lN ov) (nI (un)) la bo (nI (tp)) ft (nI (0)) (nI (wa)) (nI (at0)) (nI (sp)) (nI (tk)) vl (nI (fi)) (nI (nmA)) (nI (dp - 1)) wy st (nI (aP)) (nI (aF)) (nI (aH)) (lN aO) (nI (ps)) (nI (mn)) go (nI (vi)) := by rw [eg_3, va_up_self]; exact rfl
            have h121_3 : g_3 121 = .inl (cy 1, 160, .inl (fun x9 => nI (TP x9))) := ((congrFun eg_3 _).trans (va_up_ne _ _ (by omega))).trans h121_2
            have h125_3 : g_3 125 = .inl (cy 1, 201, .inl (fun x9 => nI (NSA x9))) := ((congrFun eg_3 _).trans (va_up_ne _ _ (by omega))).trans h125_2
            have h126_3 : g_3 126 = .inl (cy 1, 201, .inl (fun x9 => nI (NNA x9))) := ((congrFun eg_3 _).trans (va_up_ne _ _ (by omega))).trans h126_2
            have h127_3 : g_3 127 = .inl (cy 1, 5, .inl (fun x9 => nI (BG x9))) := ((congrFun eg_3 _).trans (va_up_ne _ _ (by omega))).trans h127_2
            have h128_3 : g_3 128 = .inl (cy 1, 5, .inl (fun x9 => nI (RD x9))) := ((congrFun eg_3 _).trans (va_up_ne _ _ (by omega))).trans h128_2
            have h129_3 : g_3 129 = .inl (cy 1, 5, .inl (fun x9 => nI (IT x9))) := ((congrFun eg_3 _).trans (va_up_ne _ _ (by omega))).trans h129_2
            have hfr_3 : ∀ j : Nat, j ≠ 114 → j ≠ 125 → j ≠ 126 → g_3 j = g j := fun j n0 n1 n2 => ((congrFun eg_3 _).trans (va_up_ne _ _ n0)).trans (hfr_2 j n0 n1 n2)
            refine lv_aload_n hx hb dX10_shuts_104 rfl (lv_at hl 3 rfl) ?_
            refine kMv (As := []) (rest := []) S hK hP hS (fun _ h => h) (c_X10_next l D cy ad N g_3 hinj (by omega) n fa he ov un la bo tp ft 0 wa at0 sp tk vl fi nmA (dp - 1) wy st aP aF aH aO ps mn go vi h114_3 TP h121_3 T htp hTT hT (by decide) hat) cv_X10_259 (by omega) h114_3 ⟨_, _, rfl⟩ ⟨rfl, rfl⟩ rfl hl.1 rfl (Nat.le_of_ble_eq_true rfl) ⟨Nat.zero_le _, Nat.zero_le _⟩ dX10_shuts_105 (fun g_4 H locs q_4 hP hS => ?_)
            obtain ⟨at2_4, sp2_4, tk2_4, vl2_4, wr2_4, wa2_4, hNX_4, h114_4, f_4⟩ := q_4
            have h121_4 : g_4 121 = .inl (cy 1, 160, .inl (fun x9 => nI (TP x9))) := (f_4 121 (by omega)).trans h121_3
            have h125_4 : g_4 125 = .inl (cy 1, 201, .inl (fun x9 => nI (NSA x9))) := (f_4 125 (by omega)).trans h125_3
            have h126_4 : g_4 126 = .inl (cy 1, 201, .inl (fun x9 => nI (NNA x9))) := (f_4 126 (by omega)).trans h126_3
            have h127_4 : g_4 127 = .inl (cy 1, 5, .inl (fun x9 => nI (BG x9))) := (f_4 127 (by omega)).trans h127_3
            have h128_4 : g_4 128 = .inl (cy 1, 5, .inl (fun x9 => nI (RD x9))) := (f_4 128 (by omega)).trans h128_3
            have h129_4 : g_4 129 = .inl (cy 1, 5, .inl (fun x9 => nI (IT x9))) := (f_4 129 (by omega)).trans h129_3
            have hfr_4 : ∀ j : Nat, j ≠ 114 → j ≠ 125 → j ≠ 126 → g_4 j = g j := fun j n0 n1 n2 => (f_4 j n0).trans (hfr_3 j n0 n1 n2)
            have hcE : c9 = pTm p9 d1 - 1 := by omega
            have hR := shu_y hem0 (by omega)
            have hcl : clP p9 = (clI (pSt p9 d1) (pLen p9) (opD p9) c9) := by unfold clP; rw [show pOp p9 - 1 = d1 by omega, hcE]
            have hck := clI_ok (fr := (pSt p9 d1)) (to := (pLen p9)) (opD_ok hPK) c9
            exact rMv S hr hlk hP hS ⟨_, _, _, _, _, _, _, _, _, _, (Or.inr (by rw [hR]; exact ⟨rfl, by rw [hcl]; exact MPR_cl (i := i9) (j := i9 + 1) hM9 hnA hck.1 (by omega) hck.2.1.2.2.1 hck.2.1.1 hck.2.1.2.1 (clI_em (p := opD p9) hem0 c9) (fun z => clI_ov (fr := pSt p9 d1) (to := pLen p9) (p := opD p9) (c := c9) z) (by omega), (hNX_4.resolve_left (fun z => z.1 rfl)).2⟩)), h114_4, h125_4, h126_4, hfr_4⟩ dX10_shuts_108
          · skip
            have c_52 := (not_congr (nI_leI (by omega) (by omega))).mp c_52
            refine lv_iload_n hx hb dX10_shuts_55 rfl (lv_at hl 2 rfl) ?_
            refine lv_istore (lv' := [(4, .int (nI (BG dp))), (3, .int (nI (c9 + 1))), (2, .int (nI (nm))), (1, .int (nI (BG dp))), (0, .ref (ad 114))]) hx hb dX10_shuts_56 hl (by decide) rfl (fun ls hl => ?_)
            have L58 : ∀ (fu : Nat) (j9 nmB : Nat) (NSB NNB : Nat → Nat), (pOv p9 = 0 → j9 ≤ (pLen p9) - (pSt p9 d1)) → (j9 ≤ 201) → (NRt (pLen (cpW (pSt p9 d1) (pLen p9) (opD p9) c9 j9)) (pB (cpW (pSt p9 d1) (pLen p9) (opD p9) c9 j9)) (pOv (cpW (pSt p9 d1) (pLen p9) (opD p9) c9 j9)) nmB NSB NNB) → (nm - (BG dp + j9)) < fu → ∀ (g_5 : Nat → va_E) (H : Heap) (locs : List Loc), g_5 114 = mob ad (nI (n)) (nI (fa)) (nI (he)) (lN ov) (nI (un)) la bo (nI (tp)) ft (nI (0)) (nI (wa)) (nI (at0)) (nI (sp)) (nI (tk)) vl (nI (fi)) (nI (nmB)) (nI (dp)) wy st (nI (aP)) (nI (aF)) (nI (aH)) (lN aO) (nI (ps)) (nI (mn)) go (nI (vi)) → g_5 125 = .inl (cy 1, 201, .inl (fun x9 => nI (NSB x9))) → g_5 126 = .inl (cy 1, 201, .inl (fun x9 => nI (NNB x9))) → (∀ j : Nat, j ≠ 114 → j ≠ 125 → j ≠ 126 → g_5 j = g j) → MM D ad N g_5 H → va_S (AA ad N) s.heap H locs → ∀ (ls : Array Slot), lv_has ls 5 [(4, .int (nI (BG dp + j9))), (3, .int (nI (c9 + 1))), (2, .int (nI (nm))), (1, .int (nI (BG dp))), (0, .ref (ad 114))] → W p l e (rmF 2 46) s m [.ref (ad 114)].toArray below meth c H locs 0 0 (MQ below (QV (fun g1 => ∃ (nm2 : Nat), ∃ (NS2 : Nat → Nat), ∃ (NN2 : Nat → Nat), ∃ (dp2 : Nat), ∃ (at2 : Nat), ∃ (sp2 : Nat), ∃ (tk2 : Nat), ∃ (vl2 : Int32), ∃ (wr2 : Nat), ∃ (wa2 : Nat), ((¬ (tkItem 3 0 p9).1 = 0 ∧ wr2 = (tkItem 3 0 p9).1 ∧ wa2 = sp) ∨ ((tkItem 3 0 p9).1 = 0 ∧ MPR (tkItem 3 0 p9).2 (i9 + 1) nm2 dp2 NS2 NN2 BG RD IT ∧ LXR T tp at0 at2 sp2 tk2 vl2 wr2 wa2)) ∧ g1 114 = mob ad (nI (n)) (nI (fa)) (nI (he)) (lN ov) (nI (un)) la bo (nI (tp)) ft (nI (wr2)) (nI (wa2)) (nI (at2)) (nI (sp2)) (nI (tk2)) vl2 (nI (fi)) (nI (nm2)) (nI (dp2)) wy st (nI (aP)) (nI (aF)) (nI (aH)) (lN aO) (nI (ps)) (nI (mn)) go (nI (vi)) ∧ g1 125 = .inl (cy 1, 201, .inl (fun x9 => nI (NS2 x9))) ∧ g1 126 = .inl (cy 1, 201, .inl (fun x9 => nI (NN2 x9))) ∧ (∀ j, j ≠ 114 → j ≠ 125 → j ≠ 126 → g1 j = g j)) D ad N) [.ref (ad 114)].toArray s 0 0 (AA ad N)) (F0 m 58 ls []) := by
              intro fu
              induction fu with
              | zero => intro j9 nmB NSB NNB hj9 hj9b hnB hms g_5 H locs h114_5 h125_5 h126_5 hfr_5 hP hS ls hl; exact absurd hms (Nat.not_lt_zero _)
              | succ fu ih58 =>
                intro j9 nmB NSB NNB hj9 hj9b hnB hms g_5 H locs h114_5 h125_5 h126_5 hfr_5 hP hS ls hl
                have h121_5 : g_5 121 = .inl (cy 1, 160, .inl (fun x9 => nI (TP x9))) := (hfr_5 121 (by omega) (by omega) (by omega)).trans hTP
                have h127_5 : g_5 127 = .inl (cy 1, 5, .inl (fun x9 => nI (BG x9))) := (hfr_5 127 (by omega) (by omega) (by omega)).trans hBG
                have h128_5 : g_5 128 = .inl (cy 1, 5, .inl (fun x9 => nI (RD x9))) := (hfr_5 128 (by omega) (by omega) (by omega)).trans hRD
                have h129_5 : g_5 129 = .inl (cy 1, 5, .inl (fun x9 => nI (IT x9))) := (hfr_5 129 (by omega) (by omega) (by omega)).trans hIT
                refine lv_iload hx hb dX10_shuts_58 (lv_at hl 0 rfl) ?_
                refine lv_iload_n hx hb dX10_shuts_60 rfl (lv_at hl 2 rfl) ?_
                refine lv_icmp_ge (tgt := 88) hx hb dX10_shuts_61 (by decide) (fun c_61 => ?_) (fun c_61 => ?_)
                · skip
                  have c_61 := (nI_leI (by omega) (by omega)).mp c_61
                  refine lv_iinc (v := nI ((c9 + 1) + 1)) (lv' := [(3, .int (nI ((c9 + 1) + 1))), (4, .int (nI (BG dp + j9))), (2, .int (nI (nm))), (1, .int (nI (BG dp))), (0, .ref (ad 114))]) hx hb dX10_shuts_88 hl (k := 1) rfl (by exact nI_add (c9 + 1) 1) (by decide) rfl (fun ls hl => ?_)
                  refine lv_goto (tgt := 42) hx hb dX10_shuts_91 (by decide) ?_
                  exact ih42 (c9 + 1) nmB NSB NNB (by omega) (cpW_e (fun z => by have := hBGe z; have := hnm0 z; have := hj9 z; have : pLen (opD p9) = pLen p9 := rfl; omega) hnB) (by omega) g_5 _ _ h114_5 h125_5 h126_5 hfr_5 hP hS _ (lv_sub hl [0, 2, 3, 4] rfl)
                · skip
                  have c_61 := (not_congr (nI_leI (by omega) (by omega))).mp c_61
                  refine lv_aload_n hx hb dX10_shuts_64 rfl (lv_at hl 4 rfl) ?_
                  refine lv_aload_n hx hb dX10_shuts_65 rfl (lv_at hl 4 rfl) ?_
                  refine mg S hK hP (by omega) h114_5 fd_X10_51 rfl dX10_shuts_66 ?_
                  refine lv_iload hx hb dX10_shuts_69 (lv_at hl 0 rfl) ?_
                  refine mial S hK hP (by omega) h125_5 (vp_in_nI (by omega) (by omega)) dX10_shuts_71 ?_
                  refine tpi (congrArg ((fun x9 => nI (NSB x9))) (nI_clamp (by omega))) ?_
                  refine lv_aload_n hx hb dX10_shuts_72 rfl (lv_at hl 4 rfl) ?_
                  refine mg S hK hP (by omega) h114_5 fd_X10_54 rfl dX10_shuts_73 ?_
                  refine lv_iload hx hb dX10_shuts_76 (lv_at hl 0 rfl) ?_
                  refine mial S hK hP (by omega) h126_5 (vp_in_nI (by omega) (by omega)) dX10_shuts_78 ?_
                  refine tpi (congrArg ((fun x9 => nI (NNB x9))) (nI_clamp (by omega))) ?_
                  refine kMv (As := [.int (nI (NSB (BG dp + j9))), .int (nI (NNB (BG dp + j9)))]) (rest := []) S hK hP hS (fun _ h => h) (c_X10_beat l D cy ad N g_5 hinj (by omega) n fa he ov un la bo tp ft 0 wa at0 sp tk vl fi nmB dp wy st aP aF aH aO ps mn go vi h114_5 NSB h125_5 NNB h126_5 (pLen (cpW (pSt p9 d1) (pLen p9) (opD p9) c9 j9)) (pB (cpW (pSt p9 d1) (pLen p9) (opD p9) c9 j9)) (pOv (cpW (pSt p9 d1) (pLen p9) (opD p9) c9 j9)) (NSB (BG dp + j9)) (NNB (BG dp + j9)) hnB (fun z => by have hz0 : pOv (cpW (pSt p9 d1) (pLen p9) (opD p9) c9 j9) = 0 := Decidable.byContradiction (fun y => by have := hnB.2.2.2.1; rw [if_neg y] at this; omega); have hp0 := clI_ov (cpW_ov hz0); have hb := cpW_B hz0 (opD_ok hPK) (i := BG dp + j9) (by have := hnm0 hp0; show _ < pLen p9; omega); have q := hnB.2.2.2.2 _ hb.2; omega)) cv_X10_265 (by omega) h114_5 ⟨_, _, rfl⟩ ⟨rfl, rfl⟩ rfl hl.1 rfl (Nat.le_of_ble_eq_true rfl) ⟨Nat.zero_le _, Nat.zero_le _⟩ dX10_shuts_79 (fun g_6 H locs q_6 hP hS => ?_)
                  obtain ⟨nm2_6, NS2_6, NN2_6, hNR2_6, h114_6, h125_6, h126_6, f_6⟩ := q_6
                  have h121_6 : g_6 121 = .inl (cy 1, 160, .inl (fun x9 => nI (TP x9))) := (f_6 121 (by omega) (by omega) (by omega)).trans h121_5
                  have h127_6 : g_6 127 = .inl (cy 1, 5, .inl (fun x9 => nI (BG x9))) := (f_6 127 (by omega) (by omega) (by omega)).trans h127_5
                  have h128_6 : g_6 128 = .inl (cy 1, 5, .inl (fun x9 => nI (RD x9))) := (f_6 128 (by omega) (by omega) (by omega)).trans h128_5
                  have h129_6 : g_6 129 = .inl (cy 1, 5, .inl (fun x9 => nI (IT x9))) := (f_6 129 (by omega) (by omega) (by omega)).trans h129_5
                  have hfr_6 : ∀ j : Nat, j ≠ 114 → j ≠ 125 → j ≠ 126 → g_6 j = g j := fun j n0 n1 n2 => (f_6 j n0 n1 n2).trans (hfr_5 j n0 n1 n2)
                  refine lv_iinc (v := nI ((BG dp + j9) + 1)) (lv' := [(4, .int (nI ((BG dp + j9) + 1))), (3, .int (nI (c9 + 1))), (2, .int (nI (nm))), (1, .int (nI (BG dp))), (0, .ref (ad 114))]) hx hb dX10_shuts_82 hl (k := 0) rfl (by exact nI_add (BG dp + j9) 1) (by decide) rfl (fun ls hl => ?_)
                  refine lv_goto (tgt := 58) hx hb dX10_shuts_85 (by decide) ?_
                  exact ih58 (j9 + 1) nm2_6 NS2_6 NN2_6 (fun z => by have := hBGe z; have := hnm0 z; omega) (by omega) (cpW_s (v := 8 * NSB (BG dp + j9) + NNB (BG dp + j9)) (fun hz0 => by have hp0 := clI_ov (cpW_ov hz0); have hb := cpW_B hz0 (opD_ok hPK) (i := BG dp + j9) (by have := hnm0 hp0; show _ < pLen p9; omega); have q := hnB.2.2.2.2 _ hb.2; rw [show pSt p9 d1 + j9 = BG dp + j9 by rw [hBGe hp0], ← hb.1, q.1, q.2.1]; omega) hNR2_6) (by omega) g_6 _ _ h114_6 h125_6 h126_6 hfr_6 hP hS _ (lv_sub hl [0, 1, 2, 3, 4] rfl)
            exact L58 ((nm - (BG dp + 0)) + 1) 0 nmA NSA NNA (fun _ => Nat.zero_le _) (by omega) (by rw [cpW_0]; exact hnA) (Nat.lt_succ_self _) g_2 _ _ h114_2 h125_2 h126_2 hfr_2 hP hS _ (lv_sub hl [0, 1, 2, 3, 4] rfl)
      exact L42 ((pTm p9 d1 - 0) + 1) 0 nm NS NN (by omega) hM9.1.1 (Nat.lt_succ_self _) g _ _ hM hNS hNN (fun j n0 n1 n2 => hfr j ) hP hS _ (lv_sub hl [0, 1, 2, 3] rfl)
    · skip
      have c_16 := (z_eq (by omega)).mp c_16
      have hbad : ¬ pEm p9 = 0 ∨ pOp p9 = 0 := Or.inl (fun z => by have := hem.mp z; rw [← hdp.1] at this; omega)
      refine lv_aload_n hx hb dX10_shuts_19 rfl (lv_at hl 0 rfl) ?_
      refine lv_iconst (v := nI (2)) hx hb dX10_shuts_20 (by decide) ?_
      refine kMv (As := [.int (nI (2))]) (rest := []) S hK hP hS (fun _ h => h) (c_X10_fails l D cy ad N g hinj (by omega) n fa he ov un la bo tp ft 0 wa at0 sp tk vl fi nm dp wy st aP aF aH aO ps mn go vi hM (by decide) 2) cv_X10_250 (by omega) hM ⟨_, _, rfl⟩ ⟨rfl, rfl⟩ rfl hl.1 rfl (Nat.le_of_ble_eq_true rfl) ⟨Nat.zero_le _, Nat.zero_le _⟩ dX10_shuts_21 (fun g_7 H locs q_7 hP hS => ?_)
      obtain ⟨h114_7, f_7⟩ := q_7
      have h121_7 : g_7 121 = .inl (cy 1, 160, .inl (fun x9 => nI (TP x9))) := (f_7 121 (by omega)).trans hTP
      have h125_7 : g_7 125 = .inl (cy 1, 201, .inl (fun x9 => nI (NS x9))) := (f_7 125 (by omega)).trans hNS
      have h126_7 : g_7 126 = .inl (cy 1, 201, .inl (fun x9 => nI (NN x9))) := (f_7 126 (by omega)).trans hNN
      have h127_7 : g_7 127 = .inl (cy 1, 5, .inl (fun x9 => nI (BG x9))) := (f_7 127 (by omega)).trans hBG
      have h128_7 : g_7 128 = .inl (cy 1, 5, .inl (fun x9 => nI (RD x9))) := (f_7 128 (by omega)).trans hRD
      have h129_7 : g_7 129 = .inl (cy 1, 5, .inl (fun x9 => nI (IT x9))) := (f_7 129 (by omega)).trans hIT
      have hfr_7 : ∀ j : Nat, j ≠ 114 → g_7 j = g j := fun j n0 => (f_7 j n0).trans (hfr j )
      have hR := shu_n hbad
      exact rMv S hr hlk hP hS ⟨nm, NS, NN, dp, at0, sp, tk, vl, _, _, (Or.inl (by rw [hR]; exact ⟨(show ¬ (2 : Nat) = 0 by decide), rfl, rfl⟩)), h114_7, h125_7, h126_7, (fun j n0 n1 n2 => hfr_7 j (by omega))⟩ dX10_shuts_24

set_option maxHeartbeats 4000000 in
set_option maxRecDepth 100000 in
theorem c_X10_letter (l : Launch) (D : va_G) (cy : Nat → ClassId) (ad : Nat → Nat) (N : Nat) (g : Nat → va_E) (hinj : ∀ i j : Nat, i < N → j < N → ad i = ad j → i = j) (p9 : PS) (i9 : Nat) (tv : Nat) (hN : 145 ≤ N) (n : Nat) (fa : Nat) (he : Nat) (ov : Nat) (un : Nat) (la : Int32) (bo : Int32) (tp : Nat) (ft : Int32) (wa : Nat) (at0 : Nat) (sp : Nat) (tk : Nat) (fi : Nat) (nm : Nat) (dp : Nat) (wy : Int32) (st : Int32) (aP : Nat) (aF : Nat) (aH : Nat) (aO : Nat) (ps : Nat) (mn : Nat) (go : Int32) (vi : Nat) (hM : g 114 = mob ad (nI (n)) (nI (fa)) (nI (he)) (lN ov) (nI (un)) la bo (nI (tp)) ft (nI (0)) (nI (wa)) (nI (at0)) (nI (sp)) (nI (tk)) (nI (tv)) (nI (fi)) (nI (nm)) (nI (dp)) wy st (nI (aP)) (nI (aF)) (nI (aH)) (lN aO) (nI (ps)) (nI (mn)) go (nI (vi))) (TP : Nat → Nat) (hTP : g 121 = .inl (cy 1, 160, .inl (fun x9 => nI (TP x9)))) (T : Nat → Nat) (htp : tp ≤ 160) (hTT : ∀ i, i < tp → TP i = T i) (hT : ∀ i, T i < 256) (NS : Nat → Nat) (hNS : g 125 = .inl (cy 1, 201, .inl (fun x9 => nI (NS x9)))) (NN : Nat → Nat) (hNN : g 126 = .inl (cy 1, 201, .inl (fun x9 => nI (NN x9)))) (BG : Nat → Nat) (hBG : g 127 = .inl (cy 1, 5, .inl (fun x9 => nI (BG x9)))) (RD : Nat → Nat) (hRD : g 128 = .inl (cy 1, 5, .inl (fun x9 => nI (RD x9)))) (IT : Nat → Nat) (hIT : g 129 = .inl (cy 1, 5, .inl (fun x9 => nI (IT x9)))) (BY : Nat → Nat) (hBY : g 122 = .inl (cy 1, 8, .inl (fun x9 => nI (BY x9)))) (BS : Nat → Nat) (hBS : g 123 = .inl (cy 1, 1600, .inl (fun x9 => nI (BS x9)))) (BN : Nat → Nat) (hBN : g 124 = .inl (cy 1, 1600, .inl (fun x9 => nI (BN x9)))) (Fl : Nat → Nat) (FB : Nat → Nat → Nat) (hfi : fi ≤ 8) (hFR : FR fi BY BS BN Fl FB) (htv : tv < 7) (hat : at0 ≤ tp) (hFB : ∀ j i, FB j i < 64) (hM9 : MPR p9 i9 nm dp NS NN BG RD IT) : Met l yX10_letter (WS yX10_letter cX10_letter 3 none) (rmF 2 46) (PP [.ref (ad 114)] D cy ad N g) (QV (fun g1 => ∃ (nm2 : Nat), ∃ (NS2 : Nat → Nat), ∃ (NN2 : Nat → Nat), ∃ (IT2 : Nat → Nat), ∃ (at2 : Nat), ∃ (sp2 : Nat), ∃ (tk2 : Nat), ∃ (vl2 : Int32), ∃ (wr2 : Nat), ∃ (wa2 : Nat), (MXR (tkAny Fl FB fi (lxK T tp at0) (lxV T tp at0) (ltP tv p9)) T tp at0 (i9 + 2) nm2 dp NS2 NN2 BG RD IT2 at2 sp2 tk2 vl2 wr2 wa2) ∧ g1 114 = mob ad (nI (n)) (nI (fa)) (nI (he)) (lN ov) (nI (un)) la bo (nI (tp)) ft (nI (wr2)) (nI (wa2)) (nI (at2)) (nI (sp2)) (nI (tk2)) vl2 (nI (fi)) (nI (nm2)) (nI (dp)) wy st (nI (aP)) (nI (aF)) (nI (aH)) (lN aO) (nI (ps)) (nI (mn)) go (nI (vi)) ∧ g1 125 = .inl (cy 1, 201, .inl (fun x9 => nI (NS2 x9))) ∧ g1 126 = .inl (cy 1, 201, .inl (fun x9 => nI (NN2 x9))) ∧ g1 129 = .inl (cy 1, 5, .inl (fun x9 => nI (IT2 x9))) ∧ (∀ j, j ≠ 114 → j ≠ 125 → j ≠ 126 → j ≠ 129 → g1 j = g j)) D ad N) 0 0 (AA ad N) := by
  refine mentry (by decide) (Nat.le_of_ble_eq_true rfl) (fun p e s m below meth c ls S hr hlk hnm hP hK hl => ?_)
  have S : CallFix p m c cX10_letter 3 s _ wsL_law RX10 := S
  have hx := S.1
  have hb := S.2.1
  have hl : lv_has ls 3 [(0, .ref (ad 114))] := hl
  have hI : MD (AA ad N) ad N := MD.in hinj
  have hS : va_S (AA ad N) s.heap s.heap [] := va_S.rf
  have hfr : ∀ j : Nat, g j = g j := fun _ => rfl
  have hdp := hM9.2.1
  have hlv := lxV_lt (T := T) (len := tp) (q := at0) hT
  have hnb := lxN_bd (T := T) hat
  refine lv_aload_n hx hb dX10_letter_0 rfl (lv_at hl 0 rfl) ?_
  refine mg S hK hP (by omega) hM fd_X10_247 rfl dX10_letter_1 ?_
  refine lv_istore_n (lv' := [(1, .int (nI (tv))), (0, .ref (ad 114))]) hx hb dX10_letter_4 rfl hl (by decide) rfl (fun ls hl => ?_)
  refine lv_aload_n hx hb dX10_letter_5 rfl (lv_at hl 1 rfl) ?_
  refine kMv (As := []) (rest := []) S hK hP hS (fun _ h => h) (c_X10_next l D cy ad N g hinj (by omega) n fa he ov un la bo tp ft 0 wa at0 sp tk (nI (tv)) fi nm dp wy st aP aF aH aO ps mn go vi hM TP hTP T htp hTT hT (by decide) hat) cv_X10_259 (by omega) hM ⟨_, _, rfl⟩ ⟨rfl, rfl⟩ rfl hl.1 rfl (Nat.le_of_ble_eq_true rfl) ⟨Nat.zero_le _, Nat.zero_le _⟩ dX10_letter_6 (fun g_1 H locs q_1 hP hS => ?_)
  obtain ⟨at2_1, sp2_1, tk2_1, vl2_1, wr2_1, wa2_1, hNX_1, h114_1, f_1⟩ := q_1
  have h121_1 : g_1 121 = .inl (cy 1, 160, .inl (fun x9 => nI (TP x9))) := (f_1 121 (by omega)).trans hTP
  have h125_1 : g_1 125 = .inl (cy 1, 201, .inl (fun x9 => nI (NS x9))) := (f_1 125 (by omega)).trans hNS
  have h126_1 : g_1 126 = .inl (cy 1, 201, .inl (fun x9 => nI (NN x9))) := (f_1 126 (by omega)).trans hNN
  have h127_1 : g_1 127 = .inl (cy 1, 5, .inl (fun x9 => nI (BG x9))) := (f_1 127 (by omega)).trans hBG
  have h128_1 : g_1 128 = .inl (cy 1, 5, .inl (fun x9 => nI (RD x9))) := (f_1 128 (by omega)).trans hRD
  have h129_1 : g_1 129 = .inl (cy 1, 5, .inl (fun x9 => nI (IT x9))) := (f_1 129 (by omega)).trans hIT
  have h122_1 : g_1 122 = .inl (cy 1, 8, .inl (fun x9 => nI (BY x9))) := (f_1 122 (by omega)).trans hBY
  have h123_1 : g_1 123 = .inl (cy 1, 1600, .inl (fun x9 => nI (BS x9))) := (f_1 123 (by omega)).trans hBS
  have h124_1 : g_1 124 = .inl (cy 1, 1600, .inl (fun x9 => nI (BN x9))) := (f_1 124 (by omega)).trans hBN
  have hfr_1 : ∀ j : Nat, j ≠ 114 → g_1 j = g j := fun j n0 => (f_1 j n0).trans (hfr j )
  have hX : LXR T tp at0 at2_1 sp2_1 tk2_1 vl2_1 wr2_1 wa2_1 := (hNX_1.resolve_left (fun z => z.1 rfl)).2
  have hXw := LXR_w hX
  refine lv_aload_n hx hb dX10_letter_9 rfl (lv_at hl 1 rfl) ?_
  refine mg S hK hP (by omega) h114_1 fd_X10_225 rfl dX10_letter_10 ?_
  have J29 : ∀ (wr3 wa3 : Nat), ((lxK T tp at0 = 6 ∧ wr3 = 1 ∧ wa3 = lxP T tp at0) ∨ (¬ lxK T tp at0 = 6 ∧ ¬ lxK T tp at0 = 1 ∧ wr3 = 2 ∧ wa3 = lxP T tp at0) ∨ (lxK T tp at0 = 1 ∧ wr3 = 0)) → ∀ (g_2 : Nat → va_E) (H : Heap) (locs : List Loc), g_2 114 = mob ad (nI (n)) (nI (fa)) (nI (he)) (lN ov) (nI (un)) la bo (nI (tp)) ft (nI (wr3)) (nI (wa3)) (nI (at2_1)) (nI (sp2_1)) (nI (tk2_1)) vl2_1 (nI (fi)) (nI (nm)) (nI (dp)) wy st (nI (aP)) (nI (aF)) (nI (aH)) (lN aO) (nI (ps)) (nI (mn)) go (nI (vi)) → (∀ j : Nat, j ≠ 114 → g_2 j = g j) → MM D ad N g_2 H → va_S (AA ad N) s.heap H locs → ∀ (ls : Array Slot), lv_has ls 3 [(1, .int (nI (tv))), (0, .ref (ad 114))] → W p l e (rmF 2 46) s m [.ref (ad 114)].toArray below meth c H locs 0 0 (MQ below (QV (fun g1 => ∃ (nm2 : Nat), ∃ (NS2 : Nat → Nat), ∃ (NN2 : Nat → Nat), ∃ (IT2 : Nat → Nat), ∃ (at2 : Nat), ∃ (sp2 : Nat), ∃ (tk2 : Nat), ∃ (vl2 : Int32), ∃ (wr2 : Nat), ∃ (wa2 : Nat), (MXR (tkAny Fl FB fi (lxK T tp at0) (lxV T tp at0) (ltP tv p9)) T tp at0 (i9 + 2) nm2 dp NS2 NN2 BG RD IT2 at2 sp2 tk2 vl2 wr2 wa2) ∧ g1 114 = mob ad (nI (n)) (nI (fa)) (nI (he)) (lN ov) (nI (un)) la bo (nI (tp)) ft (nI (wr2)) (nI (wa2)) (nI (at2)) (nI (sp2)) (nI (tk2)) vl2 (nI (fi)) (nI (nm2)) (nI (dp)) wy st (nI (aP)) (nI (aF)) (nI (aH)) (lN aO) (nI (ps)) (nI (mn)) go (nI (vi)) ∧ g1 125 = .inl (cy 1, 201, .inl (fun x9 => nI (NS2 x9))) ∧ g1 126 = .inl (cy 1, 201, .inl (fun x9 => nI (NN2 x9))) ∧ g1 129 = .inl (cy 1, 5, .inl (fun x9 => nI (IT2 x9))) ∧ (∀ j, j ≠ 114 → j ≠ 125 → j ≠ 126 → j ≠ 129 → g1 j = g j)) D ad N) [.ref (ad 114)].toArray s 0 0 (AA ad N)) (F0 m 29 ls []) := by
    intro wr3 wa3 h29 g_2 H locs h114_2 hfr_2 hP hS ls hl
    have h121_2 : g_2 121 = .inl (cy 1, 160, .inl (fun x9 => nI (TP x9))) := (hfr_2 121 (by omega)).trans hTP
    have h125_2 : g_2 125 = .inl (cy 1, 201, .inl (fun x9 => nI (NS x9))) := (hfr_2 125 (by omega)).trans hNS
    have h126_2 : g_2 126 = .inl (cy 1, 201, .inl (fun x9 => nI (NN x9))) := (hfr_2 126 (by omega)).trans hNN
    have h127_2 : g_2 127 = .inl (cy 1, 5, .inl (fun x9 => nI (BG x9))) := (hfr_2 127 (by omega)).trans hBG
    have h128_2 : g_2 128 = .inl (cy 1, 5, .inl (fun x9 => nI (RD x9))) := (hfr_2 128 (by omega)).trans hRD
    have h129_2 : g_2 129 = .inl (cy 1, 5, .inl (fun x9 => nI (IT x9))) := (hfr_2 129 (by omega)).trans hIT
    have h122_2 : g_2 122 = .inl (cy 1, 8, .inl (fun x9 => nI (BY x9))) := (hfr_2 122 (by omega)).trans hBY
    have h123_2 : g_2 123 = .inl (cy 1, 1600, .inl (fun x9 => nI (BS x9))) := (hfr_2 123 (by omega)).trans hBS
    have h124_2 : g_2 124 = .inl (cy 1, 1600, .inl (fun x9 => nI (BN x9))) := (hfr_2 124 (by omega)).trans hBN
    refine lv_aload_n hx hb dX10_letter_29 rfl (lv_at hl 1 rfl) ?_
    refine mg S hK hP (by omega) h114_2 fd_X10_225 rfl dX10_letter_30 ?_
    have J72 : ∀ (wr4 wa4 : Nat), ((¬ (tkAny Fl FB fi (lxK T tp at0) (lxV T tp at0) (ltP tv p9)).1 = 0 ∧ wr4 = (tkAny Fl FB fi (lxK T tp at0) (lxV T tp at0) (ltP tv p9)).1 ∧ wa4 = lxP T tp at0) ∨ ((tkAny Fl FB fi (lxK T tp at0) (lxV T tp at0) (ltP tv p9)).1 = 0 ∧ wr4 = 0 ∧ lxK T tp at0 = 1 ∧ lxV T tp at0 < (if tv = 6 then fi else 8))) → (wr4 ≤ 3) → ∀ (g_3 : Nat → va_E) (H : Heap) (locs : List Loc), g_3 114 = mob ad (nI (n)) (nI (fa)) (nI (he)) (lN ov) (nI (un)) la bo (nI (tp)) ft (nI (wr4)) (nI (wa4)) (nI (at2_1)) (nI (sp2_1)) (nI (tk2_1)) vl2_1 (nI (fi)) (nI (nm)) (nI (dp)) wy st (nI (aP)) (nI (aF)) (nI (aH)) (lN aO) (nI (ps)) (nI (mn)) go (nI (vi)) → (∀ j : Nat, j ≠ 114 → g_3 j = g j) → MM D ad N g_3 H → va_S (AA ad N) s.heap H locs → ∀ (ls : Array Slot), lv_has ls 3 [(1, .int (nI (tv))), (0, .ref (ad 114))] → W p l e (rmF 2 46) s m [.ref (ad 114)].toArray below meth c H locs 0 0 (MQ below (QV (fun g1 => ∃ (nm2 : Nat), ∃ (NS2 : Nat → Nat), ∃ (NN2 : Nat → Nat), ∃ (IT2 : Nat → Nat), ∃ (at2 : Nat), ∃ (sp2 : Nat), ∃ (tk2 : Nat), ∃ (vl2 : Int32), ∃ (wr2 : Nat), ∃ (wa2 : Nat), (MXR (tkAny Fl FB fi (lxK T tp at0) (lxV T tp at0) (ltP tv p9)) T tp at0 (i9 + 2) nm2 dp NS2 NN2 BG RD IT2 at2 sp2 tk2 vl2 wr2 wa2) ∧ g1 114 = mob ad (nI (n)) (nI (fa)) (nI (he)) (lN ov) (nI (un)) la bo (nI (tp)) ft (nI (wr2)) (nI (wa2)) (nI (at2)) (nI (sp2)) (nI (tk2)) vl2 (nI (fi)) (nI (nm2)) (nI (dp)) wy st (nI (aP)) (nI (aF)) (nI (aH)) (lN aO) (nI (ps)) (nI (mn)) go (nI (vi)) ∧ g1 125 = .inl (cy 1, 201, .inl (fun x9 => nI (NS2 x9))) ∧ g1 126 = .inl (cy 1, 201, .inl (fun x9 => nI (NN2 x9))) ∧ g1 129 = .inl (cy 1, 5, .inl (fun x9 => nI (IT2 x9))) ∧ (∀ j, j ≠ 114 → j ≠ 125 → j ≠ 126 → j ≠ 129 → g1 j = g j)) D ad N) [.ref (ad 114)].toArray s 0 0 (AA ad N)) (F0 m 72 ls []) := by
      intro wr4 wa4 h72 h72b g_3 H locs h114_3 hfr_3 hP hS ls hl
      have h121_3 : g_3 121 = .inl (cy 1, 160, .inl (fun x9 => nI (TP x9))) := (hfr_3 121 (by omega)).trans hTP
      have h125_3 : g_3 125 = .inl (cy 1, 201, .inl (fun x9 => nI (NS x9))) := (hfr_3 125 (by omega)).trans hNS
      have h126_3 : g_3 126 = .inl (cy 1, 201, .inl (fun x9 => nI (NN x9))) := (hfr_3 126 (by omega)).trans hNN
      have h127_3 : g_3 127 = .inl (cy 1, 5, .inl (fun x9 => nI (BG x9))) := (hfr_3 127 (by omega)).trans hBG
      have h128_3 : g_3 128 = .inl (cy 1, 5, .inl (fun x9 => nI (RD x9))) := (hfr_3 128 (by omega)).trans hRD
      have h129_3 : g_3 129 = .inl (cy 1, 5, .inl (fun x9 => nI (IT x9))) := (hfr_3 129 (by omega)).trans hIT
      have h122_3 : g_3 122 = .inl (cy 1, 8, .inl (fun x9 => nI (BY x9))) := (hfr_3 122 (by omega)).trans hBY
      have h123_3 : g_3 123 = .inl (cy 1, 1600, .inl (fun x9 => nI (BS x9))) := (hfr_3 123 (by omega)).trans hBS
      have h124_3 : g_3 124 = .inl (cy 1, 1600, .inl (fun x9 => nI (BN x9))) := (hfr_3 124 (by omega)).trans hBN
      refine lv_aload_n hx hb dX10_letter_72 rfl (lv_at hl 1 rfl) ?_
      refine mg S hK hP (by omega) h114_3 fd_X10_225 rfl dX10_letter_73 ?_
      refine lv_if_le (tgt := 80) hx hb dX10_letter_76 (by decide) (fun c_76 => ?_) (fun c_76 => ?_)
      · skip
        have c_76 := (z_le (by omega)).mp c_76
        have h4 : (tkAny Fl FB fi (lxK T tp at0) (lxV T tp at0) (ltP tv p9)).1 = 0 ∧ wr4 = 0 ∧ lxK T tp at0 = 1 ∧ lxV T tp at0 < (if tv = 6 then fi else 8) := by rcases h72 with ⟨q1, q2, q3⟩ | q; exact absurd (q2.symm.trans c_76) q1; exact q
        have hk9 := h4.2.2.1
        have hlt := h4.2.2.2
        have hvl : vl2_1 = nI (lxV T tp at0) := (hX.2.2.2.2.1 hk9).2
        refine lv_iload_n hx hb dX10_letter_80 rfl (lv_at hl 0 rfl) ?_
        refine lv_bipush (v := nI (6)) hx hb dX10_letter_81 (by decide) ?_
        have J153 : ∀ (nm5 : Nat) (NS5 NN5 : Nat → Nat), (NRt (pLen (tkAny Fl FB fi (lxK T tp at0) (lxV T tp at0) (ltP tv p9)).2) (pB (tkAny Fl FB fi (lxK T tp at0) (lxV T tp at0) (ltP tv p9)).2) (pOv (tkAny Fl FB fi (lxK T tp at0) (lxV T tp at0) (ltP tv p9)).2) nm5 NS5 NN5) → ∀ (g_4 : Nat → va_E) (H : Heap) (locs : List Loc), g_4 114 = mob ad (nI (n)) (nI (fa)) (nI (he)) (lN ov) (nI (un)) la bo (nI (tp)) ft (nI (wr4)) (nI (wa4)) (nI (at2_1)) (nI (sp2_1)) (nI (tk2_1)) vl2_1 (nI (fi)) (nI (nm5)) (nI (dp)) wy st (nI (aP)) (nI (aF)) (nI (aH)) (lN aO) (nI (ps)) (nI (mn)) go (nI (vi)) → g_4 125 = .inl (cy 1, 201, .inl (fun x9 => nI (NS5 x9))) → g_4 126 = .inl (cy 1, 201, .inl (fun x9 => nI (NN5 x9))) → (∀ j : Nat, j ≠ 114 → j ≠ 125 → j ≠ 126 → g_4 j = g j) → MM D ad N g_4 H → va_S (AA ad N) s.heap H locs → ∀ (ls : Array Slot), lv_has ls 3 [(1, .int (nI (tv))), (0, .ref (ad 114))] → W p l e (rmF 2 46) s m [.ref (ad 114)].toArray below meth c H locs 0 0 (MQ below (QV (fun g1 => ∃ (nm2 : Nat), ∃ (NS2 : Nat → Nat), ∃ (NN2 : Nat → Nat), ∃ (IT2 : Nat → Nat), ∃ (at2 : Nat), ∃ (sp2 : Nat), ∃ (tk2 : Nat), ∃ (vl2 : Int32), ∃ (wr2 : Nat), ∃ (wa2 : Nat), (MXR (tkAny Fl FB fi (lxK T tp at0) (lxV T tp at0) (ltP tv p9)) T tp at0 (i9 + 2) nm2 dp NS2 NN2 BG RD IT2 at2 sp2 tk2 vl2 wr2 wa2) ∧ g1 114 = mob ad (nI (n)) (nI (fa)) (nI (he)) (lN ov) (nI (un)) la bo (nI (tp)) ft (nI (wr2)) (nI (wa2)) (nI (at2)) (nI (sp2)) (nI (tk2)) vl2 (nI (fi)) (nI (nm2)) (nI (dp)) wy st (nI (aP)) (nI (aF)) (nI (aH)) (lN aO) (nI (ps)) (nI (mn)) go (nI (vi)) ∧ g1 125 = .inl (cy 1, 201, .inl (fun x9 => nI (NS2 x9))) ∧ g1 126 = .inl (cy 1, 201, .inl (fun x9 => nI (NN2 x9))) ∧ g1 129 = .inl (cy 1, 5, .inl (fun x9 => nI (IT2 x9))) ∧ (∀ j, j ≠ 114 → j ≠ 125 → j ≠ 126 → j ≠ 129 → g1 j = g j)) D ad N) [.ref (ad 114)].toArray s 0 0 (AA ad N)) (F0 m 153 ls []) := by
          intro nm5 NS5 NN5 hn5 g_4 H locs h114_4 h125_4 h126_4 hfr_4 hP hS ls hl
          have h121_4 : g_4 121 = .inl (cy 1, 160, .inl (fun x9 => nI (TP x9))) := (hfr_4 121 (by omega) (by omega) (by omega)).trans hTP
          have h127_4 : g_4 127 = .inl (cy 1, 5, .inl (fun x9 => nI (BG x9))) := (hfr_4 127 (by omega) (by omega) (by omega)).trans hBG
          have h128_4 : g_4 128 = .inl (cy 1, 5, .inl (fun x9 => nI (RD x9))) := (hfr_4 128 (by omega) (by omega) (by omega)).trans hRD
          have h129_4 : g_4 129 = .inl (cy 1, 5, .inl (fun x9 => nI (IT x9))) := (hfr_4 129 (by omega) (by omega) (by omega)).trans hIT
          have h122_4 : g_4 122 = .inl (cy 1, 8, .inl (fun x9 => nI (BY x9))) := (hfr_4 122 (by omega) (by omega) (by omega)).trans hBY
          have h123_4 : g_4 123 = .inl (cy 1, 1600, .inl (fun x9 => nI (BS x9))) := (hfr_4 123 (by omega) (by omega) (by omega)).trans hBS
          have h124_4 : g_4 124 = .inl (cy 1, 1600, .inl (fun x9 => nI (BN x9))) := (hfr_4 124 (by omega) (by omega) (by omega)).trans hBN
          refine lv_aload_n hx hb dX10_letter_153 rfl (lv_at hl 1 rfl) ?_
          refine mg S hK hP (by omega) h114_4 fd_X10_63 rfl dX10_letter_154 ?_
          refine lv_aload_n hx hb dX10_letter_157 rfl (lv_at hl 1 rfl) ?_
          refine mg S hK hP (by omega) h114_4 fd_X10_269 rfl dX10_letter_158 ?_
          refine lv_dup2_11 hx hb dX10_letter_161 rfl rfl ?_
          refine mial S hK hP (by omega) h129_4 (vp_in_nI (by omega) (by omega)) dX10_letter_162 ?_
          refine tpi (congrArg ((fun x9 => nI (IT x9))) (nI_clamp (by omega))) ?_
          refine lv_iconst (v := nI (1)) hx hb dX10_letter_163 (by decide) ?_
          refine lv_iadd hx hb dX10_letter_164 ?_
          refine tpi (nI_add (IT dp) 1) ?_
          refine mias S hK hP hI hS (by omega) h129_4 (vp_in_nI (by omega) (by omega)) dX10_letter_165 (fun g_5 H locs eg_5 hP hS => ?_)
          have h129_5 : g_5 129 = .inl (cy 1, 5, .inl (fun x9 => nI ((va_up IT dp (IT dp + 1)) x9))) := by rw [eg_5, va_up_self]; exact (arrN_up (by omega))
          have h114_5 : g_5 114 = mob ad (nI (n)) (nI (fa)) (nI (he)) (lN ov) (nI (un)) la bo (nI (tp)) ft (nI (wr4)) (nI (wa4)) (nI (at2_1)) (nI (sp2_1)) (nI (tk2_1)) vl2_1 (nI (fi)) (nI (nm5)) (nI (dp)) wy st (nI (aP)) (nI (aF)) (nI (aH)) (lN aO) (nI (ps)) (nI (mn)) go (nI (vi)) := ((congrFun eg_5 _).trans (va_up_ne _ _ (by omega))).trans h114_4
          have h121_5 : g_5 121 = .inl (cy 1, 160, .inl (fun x9 => nI (TP x9))) := ((congrFun eg_5 _).trans (va_up_ne _ _ (by omega))).trans h121_4
          have h125_5 : g_5 125 = .inl (cy 1, 201, .inl (fun x9 => nI (NS5 x9))) := ((congrFun eg_5 _).trans (va_up_ne _ _ (by omega))).trans h125_4
          have h126_5 : g_5 126 = .inl (cy 1, 201, .inl (fun x9 => nI (NN5 x9))) := ((congrFun eg_5 _).trans (va_up_ne _ _ (by omega))).trans h126_4
          have h127_5 : g_5 127 = .inl (cy 1, 5, .inl (fun x9 => nI (BG x9))) := ((congrFun eg_5 _).trans (va_up_ne _ _ (by omega))).trans h127_4
          have h128_5 : g_5 128 = .inl (cy 1, 5, .inl (fun x9 => nI (RD x9))) := ((congrFun eg_5 _).trans (va_up_ne _ _ (by omega))).trans h128_4
          have h122_5 : g_5 122 = .inl (cy 1, 8, .inl (fun x9 => nI (BY x9))) := ((congrFun eg_5 _).trans (va_up_ne _ _ (by omega))).trans h122_4
          have h123_5 : g_5 123 = .inl (cy 1, 1600, .inl (fun x9 => nI (BS x9))) := ((congrFun eg_5 _).trans (va_up_ne _ _ (by omega))).trans h123_4
          have h124_5 : g_5 124 = .inl (cy 1, 1600, .inl (fun x9 => nI (BN x9))) := ((congrFun eg_5 _).trans (va_up_ne _ _ (by omega))).trans h124_4
          have hfr_5 : ∀ j : Nat, j ≠ 114 → j ≠ 125 → j ≠ 126 → j ≠ 129 → g_5 j = g j := fun j n0 n1 n2 n3 => ((congrFun eg_5 _).trans (va_up_ne _ _ n3)).trans (hfr_4 j n0 n1 n2)
          refine lv_aload_n hx hb dX10_letter_166 rfl (lv_at hl 1 rfl) ?_
          refine kMv (As := []) (rest := []) S hK hP hS (fun _ h => h) (c_X10_next l D cy ad N g_5 hinj (by omega) n fa he ov un la bo tp ft wr4 wa4 at2_1 sp2_1 tk2_1 vl2_1 fi nm5 dp wy st aP aF aH aO ps mn go vi h114_5 TP h121_5 T htp hTT hT (by omega) (by rw [hXw.2.2.2.2.2]; exact hnb.2.1)) cv_X10_259 (by omega) h114_5 ⟨_, _, rfl⟩ ⟨rfl, rfl⟩ rfl hl.1 rfl (Nat.le_of_ble_eq_true rfl) ⟨Nat.zero_le _, Nat.zero_le _⟩ dX10_letter_167 (fun g_6 H locs q_6 hP hS => ?_)
          obtain ⟨at2_6, sp2_6, tk2_6, vl2_6, wr2_6, wa2_6, hNX_6, h114_6, f_6⟩ := q_6
          have h121_6 : g_6 121 = .inl (cy 1, 160, .inl (fun x9 => nI (TP x9))) := (f_6 121 (by omega)).trans h121_5
          have h125_6 : g_6 125 = .inl (cy 1, 201, .inl (fun x9 => nI (NS5 x9))) := (f_6 125 (by omega)).trans h125_5
          have h126_6 : g_6 126 = .inl (cy 1, 201, .inl (fun x9 => nI (NN5 x9))) := (f_6 126 (by omega)).trans h126_5
          have h127_6 : g_6 127 = .inl (cy 1, 5, .inl (fun x9 => nI (BG x9))) := (f_6 127 (by omega)).trans h127_5
          have h128_6 : g_6 128 = .inl (cy 1, 5, .inl (fun x9 => nI (RD x9))) := (f_6 128 (by omega)).trans h128_5
          have h129_6 : g_6 129 = .inl (cy 1, 5, .inl (fun x9 => nI ((va_up IT dp (IT dp + 1)) x9))) := (f_6 129 (by omega)).trans h129_5
          have h122_6 : g_6 122 = .inl (cy 1, 8, .inl (fun x9 => nI (BY x9))) := (f_6 122 (by omega)).trans h122_5
          have h123_6 : g_6 123 = .inl (cy 1, 1600, .inl (fun x9 => nI (BS x9))) := (f_6 123 (by omega)).trans h123_5
          have h124_6 : g_6 124 = .inl (cy 1, 1600, .inl (fun x9 => nI (BN x9))) := (f_6 124 (by omega)).trans h124_5
          have hfr_6 : ∀ j : Nat, j ≠ 114 → j ≠ 125 → j ≠ 126 → j ≠ 129 → g_6 j = g j := fun j n0 n1 n2 n3 => (f_6 j n0).trans (hfr_5 j n0 n1 n2 n3)
          have hY : LXR T tp at2_1 at2_6 sp2_6 tk2_6 vl2_6 wr2_6 wa2_6 := (hNX_6.resolve_left (fun z => z.1 c_76)).2
          have hYw := LXR_w hY
          have hK1 : POK (ltP tv p9) := by have q := tkItem_ok (kd := 0) (tv := tv) hM9.1.2 (fun _ => by omega) (fun _ => htv); rw [ltP_e] at q; exact q
          have hR2 : pOp (tkAny Fl FB fi (lxK T tp at0) (lxV T tp at0) (ltP tv p9)).2 = pOp p9 ∧ pSt (tkAny Fl FB fi (lxK T tp at0) (lxV T tp at0) (ltP tv p9)).2 = pSt p9 ∧ pTm (tkAny Fl FB fi (lxK T tp at0) (lxV T tp at0) (ltP tv p9)).2 = pTm p9 ∧ pEm (tkAny Fl FB fi (lxK T tp at0) (lxV T tp at0) (ltP tv p9)).2 = 0 ∧ (pOv (tkAny Fl FB fi (lxK T tp at0) (lxV T tp at0) (ltP tv p9)).2 = 0 → pOv p9 = 0) := by rw [hk9, num_y hlt]; by_cases q : tv = 6; (rw [if_pos q]; exact ⟨rfl, rfl, rfl, rfl, fun z => wrL_ov (f := (bt8 (FB (lxV T tp at0)) (Fl (lxV T tp at0)))) (fr := 0) (p := wt0 (ltP tv p9)) (Fl (lxV T tp at0) - 0) z⟩); (rw [if_neg q]; exact ⟨rfl, rfl, rfl, rfl, fun z => wrP_ov (p := wt0 (ltP tv p9)) hM9.1.1.2.2.1 z⟩)
          exact rMv S hr hlk hP hS ⟨_, _, _, _, _, _, _, _, _, _, (Or.inr ⟨h4.1, MPR_it (j := i9 + 2) hM9 hn5 (tkAny_ok (p := ltP tv p9) hK1 hFB hfi (fun _ => hlv.1) hlv.2) hR2.1 hR2.2.1 hR2.2.2.1 hR2.2.2.2.1 hR2.2.2.2.2 (by omega), by rw [← hXw.2.2.2.2.2]; exact hY⟩), h114_6, h125_6, h126_6, h129_6, hfr_6⟩ dX10_letter_170
        refine lv_icmp_ne (tgt := 144) hx hb dX10_letter_83 (by decide) (fun c_83 => ?_) (fun c_83 => ?_)
        · skip
          have c_83 := (not_congr (nI_eq (by omega) (by omega))).mp c_83
          have hl8 := hlt
          rw [if_neg c_83] at hl8
          refine lv_aload_n hx hb dX10_letter_144 rfl (lv_at hl 1 rfl) ?_
          refine lv_iload_n hx hb dX10_letter_145 rfl (lv_at hl 0 rfl) ?_
          refine lv_aload_n hx hb dX10_letter_146 rfl (lv_at hl 1 rfl) ?_
          refine mg S hK hP (by omega) h114_3 fd_X10_247 rfl dX10_letter_147 ?_
          refine tpi (hvl) ?_
          refine kMv (As := [.int (nI (tv)), .int (nI (lxV T tp at0))]) (rest := []) S hK hP hS (fun _ h => h) (c_X10_beat l D cy ad N g_3 hinj (by omega) n fa he ov un la bo tp ft wr4 wa4 at2_1 sp2_1 tk2_1 vl2_1 fi nm dp wy st aP aF aH aO ps mn go vi h114_3 NS h125_3 NN h126_3 (pLen p9) (pB p9) (pOv p9) tv (lxV T tp at0) hM9.1.1 (fun _ => by omega)) cv_X10_265 (by omega) h114_3 ⟨_, _, rfl⟩ ⟨rfl, rfl⟩ rfl hl.1 rfl (Nat.le_of_ble_eq_true rfl) ⟨Nat.zero_le _, Nat.zero_le _⟩ dX10_letter_150 (fun g_7 H locs q_7 hP hS => ?_)
          obtain ⟨nm2_7, NS2_7, NN2_7, hNR2_7, h114_7, h125_7, h126_7, f_7⟩ := q_7
          have h121_7 : g_7 121 = .inl (cy 1, 160, .inl (fun x9 => nI (TP x9))) := (f_7 121 (by omega) (by omega) (by omega)).trans h121_3
          have h127_7 : g_7 127 = .inl (cy 1, 5, .inl (fun x9 => nI (BG x9))) := (f_7 127 (by omega) (by omega) (by omega)).trans h127_3
          have h128_7 : g_7 128 = .inl (cy 1, 5, .inl (fun x9 => nI (RD x9))) := (f_7 128 (by omega) (by omega) (by omega)).trans h128_3
          have h129_7 : g_7 129 = .inl (cy 1, 5, .inl (fun x9 => nI (IT x9))) := (f_7 129 (by omega) (by omega) (by omega)).trans h129_3
          have h122_7 : g_7 122 = .inl (cy 1, 8, .inl (fun x9 => nI (BY x9))) := (f_7 122 (by omega) (by omega) (by omega)).trans h122_3
          have h123_7 : g_7 123 = .inl (cy 1, 1600, .inl (fun x9 => nI (BS x9))) := (f_7 123 (by omega) (by omega) (by omega)).trans h123_3
          have h124_7 : g_7 124 = .inl (cy 1, 1600, .inl (fun x9 => nI (BN x9))) := (f_7 124 (by omega) (by omega) (by omega)).trans h124_3
          have hfr_7 : ∀ j : Nat, j ≠ 114 → j ≠ 125 → j ≠ 126 → g_7 j = g j := fun j n0 n1 n2 => (f_7 j n0 n1 n2).trans (hfr_3 j n0)
          exact J153 nm2_7 NS2_7 NN2_7 (by rw [hk9, num_y hlt, if_neg c_83]; exact NR_w (p := wt0 (ltP tv p9)) (v := 8 * tv + lxV T tp at0) ⟨hM9.1.1.2.1, hM9.1.1.2.2.1⟩ hNR2_7) g_7 _ _ h114_7 h125_7 h126_7 hfr_7 hP hS _ (lv_sub hl [0, 1] rfl)
        · skip
          have c_83 := (nI_eq (by omega) (by omega)).mp c_83
          have hlf := hlt
          rw [if_pos c_83] at hlf
          have hFv := hFR (lxV T tp at0) hlf
          refine lv_iconst (v := nI (0)) hx hb dX10_letter_86 (by decide) ?_
          refine lv_istore_n (lv' := [(2, .int (nI (0))), (1, .int (nI (tv))), (0, .ref (ad 114))]) hx hb dX10_letter_87 rfl hl (by decide) rfl (fun ls hl => ?_)
          have L88 : ∀ (fu : Nat) (j9 nm3 : Nat) (NS3 NN3 : Nat → Nat), (j9 ≤ Fl (lxV T tp at0)) → (NRt (pLen (wrL (bt8 (FB (lxV T tp at0)) (Fl (lxV T tp at0))) 0 (wt0 (ltP tv p9)) j9)) (pB (wrL (bt8 (FB (lxV T tp at0)) (Fl (lxV T tp at0))) 0 (wt0 (ltP tv p9)) j9)) (pOv (wrL (bt8 (FB (lxV T tp at0)) (Fl (lxV T tp at0))) 0 (wt0 (ltP tv p9)) j9)) nm3 NS3 NN3) → (Fl (lxV T tp at0) - j9) < fu → ∀ (g_8 : Nat → va_E) (H : Heap) (locs : List Loc), g_8 114 = mob ad (nI (n)) (nI (fa)) (nI (he)) (lN ov) (nI (un)) la bo (nI (tp)) ft (nI (wr4)) (nI (wa4)) (nI (at2_1)) (nI (sp2_1)) (nI (tk2_1)) vl2_1 (nI (fi)) (nI (nm3)) (nI (dp)) wy st (nI (aP)) (nI (aF)) (nI (aH)) (lN aO) (nI (ps)) (nI (mn)) go (nI (vi)) → g_8 125 = .inl (cy 1, 201, .inl (fun x9 => nI (NS3 x9))) → g_8 126 = .inl (cy 1, 201, .inl (fun x9 => nI (NN3 x9))) → (∀ j : Nat, j ≠ 114 → j ≠ 125 → j ≠ 126 → g_8 j = g j) → MM D ad N g_8 H → va_S (AA ad N) s.heap H locs → ∀ (ls : Array Slot), lv_has ls 3 [(2, .int (nI (j9))), (1, .int (nI (tv))), (0, .ref (ad 114))] → W p l e (rmF 2 46) s m [.ref (ad 114)].toArray below meth c H locs 0 0 (MQ below (QV (fun g1 => ∃ (nm2 : Nat), ∃ (NS2 : Nat → Nat), ∃ (NN2 : Nat → Nat), ∃ (IT2 : Nat → Nat), ∃ (at2 : Nat), ∃ (sp2 : Nat), ∃ (tk2 : Nat), ∃ (vl2 : Int32), ∃ (wr2 : Nat), ∃ (wa2 : Nat), (MXR (tkAny Fl FB fi (lxK T tp at0) (lxV T tp at0) (ltP tv p9)) T tp at0 (i9 + 2) nm2 dp NS2 NN2 BG RD IT2 at2 sp2 tk2 vl2 wr2 wa2) ∧ g1 114 = mob ad (nI (n)) (nI (fa)) (nI (he)) (lN ov) (nI (un)) la bo (nI (tp)) ft (nI (wr2)) (nI (wa2)) (nI (at2)) (nI (sp2)) (nI (tk2)) vl2 (nI (fi)) (nI (nm2)) (nI (dp)) wy st (nI (aP)) (nI (aF)) (nI (aH)) (lN aO) (nI (ps)) (nI (mn)) go (nI (vi)) ∧ g1 125 = .inl (cy 1, 201, .inl (fun x9 => nI (NS2 x9))) ∧ g1 126 = .inl (cy 1, 201, .inl (fun x9 => nI (NN2 x9))) ∧ g1 129 = .inl (cy 1, 5, .inl (fun x9 => nI (IT2 x9))) ∧ (∀ j, j ≠ 114 → j ≠ 125 → j ≠ 126 → j ≠ 129 → g1 j = g j)) D ad N) [.ref (ad 114)].toArray s 0 0 (AA ad N)) (F0 m 88 ls []) := by
            intro fu
            induction fu with
            | zero => intro j9 nm3 NS3 NN3 hj9 hnr hms g_8 H locs h114_8 h125_8 h126_8 hfr_8 hP hS ls hl; exact absurd hms (Nat.not_lt_zero _)
            | succ fu ih88 =>
              intro j9 nm3 NS3 NN3 hj9 hnr hms g_8 H locs h114_8 h125_8 h126_8 hfr_8 hP hS ls hl
              have h121_8 : g_8 121 = .inl (cy 1, 160, .inl (fun x9 => nI (TP x9))) := (hfr_8 121 (by omega) (by omega) (by omega)).trans hTP
              have h127_8 : g_8 127 = .inl (cy 1, 5, .inl (fun x9 => nI (BG x9))) := (hfr_8 127 (by omega) (by omega) (by omega)).trans hBG
              have h128_8 : g_8 128 = .inl (cy 1, 5, .inl (fun x9 => nI (RD x9))) := (hfr_8 128 (by omega) (by omega) (by omega)).trans hRD
              have h129_8 : g_8 129 = .inl (cy 1, 5, .inl (fun x9 => nI (IT x9))) := (hfr_8 129 (by omega) (by omega) (by omega)).trans hIT
              have h122_8 : g_8 122 = .inl (cy 1, 8, .inl (fun x9 => nI (BY x9))) := (hfr_8 122 (by omega) (by omega) (by omega)).trans hBY
              have h123_8 : g_8 123 = .inl (cy 1, 1600, .inl (fun x9 => nI (BS x9))) := (hfr_8 123 (by omega) (by omega) (by omega)).trans hBS
              have h124_8 : g_8 124 = .inl (cy 1, 1600, .inl (fun x9 => nI (BN x9))) := (hfr_8 124 (by omega) (by omega) (by omega)).trans hBN
              refine lv_iload_n hx hb dX10_letter_88 rfl (lv_at hl 0 rfl) ?_
              refine lv_aload_n hx hb dX10_letter_89 rfl (lv_at hl 2 rfl) ?_
              refine mg S hK hP (by omega) h114_8 fd_X10_42 rfl dX10_letter_90 ?_
              refine lv_aload_n hx hb dX10_letter_93 rfl (lv_at hl 2 rfl) ?_
              refine mg S hK hP (by omega) h114_8 fd_X10_247 rfl dX10_letter_94 ?_
              refine tpi (hvl) ?_
              refine mial S hK hP (by omega) h122_8 (vp_in_nI (by omega) (by omega)) dX10_letter_97 ?_
              refine tpi (congrArg ((fun x9 => nI (BY x9))) (nI_clamp (by omega))) ?_
              refine tpi (congrArg nI hFv.1) ?_
              refine lv_icmp_ge (tgt := 141) hx hb dX10_letter_98 (by decide) (fun c_98 => ?_) (fun c_98 => ?_)
              · skip
                have c_98 := (nI_leI (by omega) (by omega)).mp c_98
                refine lv_goto (tgt := 153) hx hb dX10_letter_141 (by decide) ?_
                exact J153 nm3 NS3 NN3 (by rw [hk9, num_y hlt, if_pos c_83]; have q := hnr; rw [show j9 = Fl (lxV T tp at0) - 0 by omega] at q; exact q) g_8 _ _ h114_8 h125_8 h126_8 hfr_8 hP hS _ (lv_sub hl [1, 2] rfl)
              · skip
                have c_98 := (not_congr (nI_leI (by omega) (by omega))).mp c_98
                have hqj := hFv.2.2 j9 (by omega)
                refine lv_aload_n hx hb dX10_letter_101 rfl (lv_at hl 2 rfl) ?_
                refine lv_aload_n hx hb dX10_letter_102 rfl (lv_at hl 2 rfl) ?_
                refine mg S hK hP (by omega) h114_8 fd_X10_45 rfl dX10_letter_103 ?_
                refine lv_sipush (v := nI (200)) hx hb dX10_letter_106 (by decide) ?_
                refine lv_aload_n hx hb dX10_letter_109 rfl (lv_at hl 2 rfl) ?_
                refine mg S hK hP (by omega) h114_8 fd_X10_247 rfl dX10_letter_110 ?_
                refine tpi (hvl) ?_
                refine lv_imul hx hb dX10_letter_113 ?_
                refine tpi (pk_mul 200 (lxV T tp at0)) ?_
                refine lv_iload_n hx hb dX10_letter_114 rfl (lv_at hl 0 rfl) ?_
                refine lv_iadd hx hb dX10_letter_115 ?_
                refine tpi (nI_add (200 * lxV T tp at0) j9) ?_
                refine mial S hK hP (by omega) h123_8 (vp_in_nI (by omega) (by omega)) dX10_letter_116 ?_
                refine tpi (congrArg ((fun x9 => nI (BS x9))) (nI_clamp (by omega))) ?_
                refine tpi (congrArg nI hqj.1) ?_
                refine lv_aload_n hx hb dX10_letter_117 rfl (lv_at hl 2 rfl) ?_
                refine mg S hK hP (by omega) h114_8 fd_X10_48 rfl dX10_letter_118 ?_
                refine lv_sipush (v := nI (200)) hx hb dX10_letter_121 (by decide) ?_
                refine lv_aload_n hx hb dX10_letter_124 rfl (lv_at hl 2 rfl) ?_
                refine mg S hK hP (by omega) h114_8 fd_X10_247 rfl dX10_letter_125 ?_
                refine tpi (hvl) ?_
                refine lv_imul hx hb dX10_letter_128 ?_
                refine tpi (pk_mul 200 (lxV T tp at0)) ?_
                refine lv_iload_n hx hb dX10_letter_129 rfl (lv_at hl 0 rfl) ?_
                refine lv_iadd hx hb dX10_letter_130 ?_
                refine tpi (nI_add (200 * lxV T tp at0) j9) ?_
                refine mial S hK hP (by omega) h124_8 (vp_in_nI (by omega) (by omega)) dX10_letter_131 ?_
                refine tpi (congrArg ((fun x9 => nI (BN x9))) (nI_clamp (by omega))) ?_
                refine tpi (congrArg nI hqj.2.1) ?_
                refine kMv (As := [.int (nI (FB (lxV T tp at0) j9 / 8)), .int (nI (FB (lxV T tp at0) j9 % 8))]) (rest := []) S hK hP hS (fun _ h => h) (c_X10_beat l D cy ad N g_8 hinj (by omega) n fa he ov un la bo tp ft wr4 wa4 at2_1 sp2_1 tk2_1 vl2_1 fi nm3 dp wy st aP aF aH aO ps mn go vi h114_8 NS3 h125_8 NN3 h126_8 (pLen (wrL (bt8 (FB (lxV T tp at0)) (Fl (lxV T tp at0))) 0 (wt0 (ltP tv p9)) j9)) (pB (wrL (bt8 (FB (lxV T tp at0)) (Fl (lxV T tp at0))) 0 (wt0 (ltP tv p9)) j9)) (pOv (wrL (bt8 (FB (lxV T tp at0)) (Fl (lxV T tp at0))) 0 (wt0 (ltP tv p9)) j9)) (FB (lxV T tp at0) j9 / 8) (FB (lxV T tp at0) j9 % 8) hnr (fun _ => by omega)) cv_X10_265 (by omega) h114_8 ⟨_, _, rfl⟩ ⟨rfl, rfl⟩ rfl hl.1 rfl (Nat.le_of_ble_eq_true rfl) ⟨Nat.zero_le _, Nat.zero_le _⟩ dX10_letter_132 (fun g_9 H locs q_9 hP hS => ?_)
                obtain ⟨nm2_9, NS2_9, NN2_9, hNR2_9, h114_9, h125_9, h126_9, f_9⟩ := q_9
                have h121_9 : g_9 121 = .inl (cy 1, 160, .inl (fun x9 => nI (TP x9))) := (f_9 121 (by omega) (by omega) (by omega)).trans h121_8
                have h127_9 : g_9 127 = .inl (cy 1, 5, .inl (fun x9 => nI (BG x9))) := (f_9 127 (by omega) (by omega) (by omega)).trans h127_8
                have h128_9 : g_9 128 = .inl (cy 1, 5, .inl (fun x9 => nI (RD x9))) := (f_9 128 (by omega) (by omega) (by omega)).trans h128_8
                have h129_9 : g_9 129 = .inl (cy 1, 5, .inl (fun x9 => nI (IT x9))) := (f_9 129 (by omega) (by omega) (by omega)).trans h129_8
                have h122_9 : g_9 122 = .inl (cy 1, 8, .inl (fun x9 => nI (BY x9))) := (f_9 122 (by omega) (by omega) (by omega)).trans h122_8
                have h123_9 : g_9 123 = .inl (cy 1, 1600, .inl (fun x9 => nI (BS x9))) := (f_9 123 (by omega) (by omega) (by omega)).trans h123_8
                have h124_9 : g_9 124 = .inl (cy 1, 1600, .inl (fun x9 => nI (BN x9))) := (f_9 124 (by omega) (by omega) (by omega)).trans h124_8
                have hfr_9 : ∀ j : Nat, j ≠ 114 → j ≠ 125 → j ≠ 126 → g_9 j = g j := fun j n0 n1 n2 => (f_9 j n0 n1 n2).trans (hfr_8 j n0 n1 n2)
                refine lv_iinc (v := nI (j9 + 1)) (lv' := [(2, .int (nI (j9 + 1))), (1, .int (nI (tv))), (0, .ref (ad 114))]) hx hb dX10_letter_135 hl (k := 0) rfl (by exact nI_add j9 1) (by decide) rfl (fun ls hl => ?_)
                refine lv_goto (tgt := 88) hx hb dX10_letter_138 (by decide) ?_
                exact ih88 (j9 + 1) nm2_9 NS2_9 NN2_9 (by omega) (NR_L (by have q := hNR2_9; rw [show 8 * (FB (lxV T tp at0) j9 / 8) + FB (lxV T tp at0) j9 % 8 = (bt8 (FB (lxV T tp at0)) (Fl (lxV T tp at0))) (0 + j9) by rw [Nat.zero_add, bt8_in (by omega)]; omega] at q; exact q)) (by omega) g_9 _ _ h114_9 h125_9 h126_9 hfr_9 hP hS _ (lv_sub hl [0, 1, 2] rfl)
          exact L88 ((Fl (lxV T tp at0) - 0) + 1) 0 nm NS NN (by omega) hM9.1.1 (Nat.lt_succ_self _) g_3 _ _ h114_3 h125_3 h126_3 (fun j n0 n1 n2 => hfr_3 j (by omega)) hP hS _ (lv_sub hl [0, 1, 2] rfl)
      · skip
        have c_76 := (not_congr (z_le (by omega))).mp c_76
        have h4 : ¬ (tkAny Fl FB fi (lxK T tp at0) (lxV T tp at0) (ltP tv p9)).1 = 0 ∧ wr4 = (tkAny Fl FB fi (lxK T tp at0) (lxV T tp at0) (ltP tv p9)).1 ∧ wa4 = lxP T tp at0 := by rcases h72 with q | ⟨q1, q2, q3, q4⟩; exact q; exact absurd q2 c_76
        exact rMv S hr hlk hP hS ⟨nm, NS, NN, IT, at2_1, sp2_1, tk2_1, vl2_1, wr4, wa4, (Or.inl h4), h114_3, h125_3, h126_3, h129_3, (fun j n0 n1 n2 n3 => hfr_3 j (by omega))⟩ dX10_letter_79
    refine lv_if_ne (tgt := 72) hx hb dX10_letter_33 (by decide) (fun c_33 => ?_) (fun c_33 => ?_)
    · skip
      have c_33 := (not_congr (z_eq (by omega))).mp c_33
      exact J72 wr3 wa3 (by rcases h29 with ⟨q1, q2, q3⟩ | ⟨q0, q1, q2, q3⟩ | ⟨q1, q2⟩; (left; rw [q1, num_6]; exact ⟨by decide, q2, q3⟩); (left; rw [num_n q0 q1]; exact ⟨by decide, q2, q3⟩); exact absurd q2 c_33) (by rcases h29 with ⟨q1, q2, q3⟩ | ⟨q0, q1, q2, q3⟩ | ⟨q1, q2⟩ <;> omega) g_2 _ _ h114_2 hfr_2 hP hS _ (lv_sub hl [0, 1] rfl)
    · skip
      have c_33 := (z_eq (by omega)).mp c_33
      have hk9 : lxK T tp at0 = 1 := by rcases h29 with ⟨q1, q2, q3⟩ | ⟨q0, q1, q2, q3⟩ | ⟨q1, q2⟩; omega; omega; exact q1
      have hvl : vl2_1 = nI (lxV T tp at0) := (hX.2.2.2.2.1 hk9).2
      refine lv_aload_n hx hb dX10_letter_36 rfl (lv_at hl 1 rfl) ?_
      refine mg S hK hP (by omega) h114_2 fd_X10_247 rfl dX10_letter_37 ?_
      refine tpi (hvl) ?_
      refine lv_i2l hx hb dX10_letter_40 rfl ?_
      refine tpl (nI_l (by omega)) ?_
      refine lv_lconst (v := lN 0) hx hb dX10_letter_41 (by decide) ?_
      refine lv_iload_n hx hb dX10_letter_42 rfl (lv_at hl 0 rfl) ?_
      refine lv_bipush (v := nI (6)) hx hb dX10_letter_43 (by decide) ?_
      have J61 : ∀ (z9 : Int64), ((lN 0 ≤ lN (lxV T tp at0) ∧ lN (lxV T tp at0) ≤ z9) ↔ lxV T tp at0 < (if tv = 6 then fi else 8)) → ∀ (ls : Array Slot), lv_has ls 3 [(1, .int (nI (tv))), (0, .ref (ad 114))] → W p l e (rmF 2 46) s m [.ref (ad 114)].toArray below meth c H locs 0 0 (MQ below (QV (fun g1 => ∃ (nm2 : Nat), ∃ (NS2 : Nat → Nat), ∃ (NN2 : Nat → Nat), ∃ (IT2 : Nat → Nat), ∃ (at2 : Nat), ∃ (sp2 : Nat), ∃ (tk2 : Nat), ∃ (vl2 : Int32), ∃ (wr2 : Nat), ∃ (wa2 : Nat), (MXR (tkAny Fl FB fi (lxK T tp at0) (lxV T tp at0) (ltP tv p9)) T tp at0 (i9 + 2) nm2 dp NS2 NN2 BG RD IT2 at2 sp2 tk2 vl2 wr2 wa2) ∧ g1 114 = mob ad (nI (n)) (nI (fa)) (nI (he)) (lN ov) (nI (un)) la bo (nI (tp)) ft (nI (wr2)) (nI (wa2)) (nI (at2)) (nI (sp2)) (nI (tk2)) vl2 (nI (fi)) (nI (nm2)) (nI (dp)) wy st (nI (aP)) (nI (aF)) (nI (aH)) (lN aO) (nI (ps)) (nI (mn)) go (nI (vi)) ∧ g1 125 = .inl (cy 1, 201, .inl (fun x9 => nI (NS2 x9))) ∧ g1 126 = .inl (cy 1, 201, .inl (fun x9 => nI (NN2 x9))) ∧ g1 129 = .inl (cy 1, 5, .inl (fun x9 => nI (IT2 x9))) ∧ (∀ j, j ≠ 114 → j ≠ 125 → j ≠ 126 → j ≠ 129 → g1 j = g j)) D ad N) [.ref (ad 114)].toArray s 0 0 (AA ad N)) (F0 m 61 ls [.long z9, .long (lN 0), .long (lN (lxV T tp at0))]) := by
        intro z9 hz9 ls hl
        refine kSi (As := [.long (lN (lxV T tp at0)), .long (lN 0), .long z9]) (rest := []) S hK hP (c_X10_in l D cy ad N g_2 (lN (lxV T tp at0)) (lN 0) z9) cs_X10_115 ⟨rfl, rfl⟩ rfl hl.1 rfl (Nat.le_of_ble_eq_true rfl) ⟨Nat.zero_le _, Nat.zero_le _⟩ dX10_letter_61 (fun r_61 q_61 => ?_)
        subst q_61
        refine tpi (ifC hz9) ?_
        refine lv_if_ne (tgt := 72) hx hb dX10_letter_64 (by decide) (fun c_64 => ?_) (fun c_64 => ?_)
        · skip
          have c_64 := bz_ne.mp c_64
          exact J72 wr3 wa3 (Or.inr ⟨by rw [hk9, num_y c_64], c_33, hk9, c_64⟩) (by omega) g_2 _ _ h114_2 hfr_2 hP hS _ (lv_sub hl [0, 1] rfl)
        · skip
          have c_64 := bz_eq.mp c_64
          refine lv_aload_n hx hb dX10_letter_67 rfl (lv_at hl 1 rfl) ?_
          refine lv_iconst (v := nI (3)) hx hb dX10_letter_68 (by decide) ?_
          refine kMv (As := [.int (nI (3))]) (rest := []) S hK hP hS (fun _ h => h) (c_X10_fails l D cy ad N g_2 hinj (by omega) n fa he ov un la bo tp ft wr3 wa3 at2_1 sp2_1 tk2_1 vl2_1 fi nm dp wy st aP aF aH aO ps mn go vi h114_2 (by omega) 3) cv_X10_250 (by omega) h114_2 ⟨_, _, rfl⟩ ⟨rfl, rfl⟩ rfl hl.1 rfl (Nat.le_of_ble_eq_true rfl) ⟨Nat.zero_le _, Nat.zero_le _⟩ dX10_letter_69 (fun g_10 H locs q_10 hP hS => ?_)
          obtain ⟨h114_10, f_10⟩ := q_10
          have h121_10 : g_10 121 = .inl (cy 1, 160, .inl (fun x9 => nI (TP x9))) := (f_10 121 (by omega)).trans h121_2
          have h125_10 : g_10 125 = .inl (cy 1, 201, .inl (fun x9 => nI (NS x9))) := (f_10 125 (by omega)).trans h125_2
          have h126_10 : g_10 126 = .inl (cy 1, 201, .inl (fun x9 => nI (NN x9))) := (f_10 126 (by omega)).trans h126_2
          have h127_10 : g_10 127 = .inl (cy 1, 5, .inl (fun x9 => nI (BG x9))) := (f_10 127 (by omega)).trans h127_2
          have h128_10 : g_10 128 = .inl (cy 1, 5, .inl (fun x9 => nI (RD x9))) := (f_10 128 (by omega)).trans h128_2
          have h129_10 : g_10 129 = .inl (cy 1, 5, .inl (fun x9 => nI (IT x9))) := (f_10 129 (by omega)).trans h129_2
          have h122_10 : g_10 122 = .inl (cy 1, 8, .inl (fun x9 => nI (BY x9))) := (f_10 122 (by omega)).trans h122_2
          have h123_10 : g_10 123 = .inl (cy 1, 1600, .inl (fun x9 => nI (BS x9))) := (f_10 123 (by omega)).trans h123_2
          have h124_10 : g_10 124 = .inl (cy 1, 1600, .inl (fun x9 => nI (BN x9))) := (f_10 124 (by omega)).trans h124_2
          have hfr_10 : ∀ j : Nat, j ≠ 114 → g_10 j = g j := fun j n0 => (f_10 j n0).trans (hfr_2 j n0)
          exact J72 (if wr3 = 0 then 3 else wr3) (if wr3 = 0 then sp2_1 else wa3) (Or.inl (by rw [hk9, num_o c_64]; exact ⟨by decide, if_pos c_33, by rw [if_pos c_33]; exact hXw.2.2.2.1⟩)) (by rw [if_pos c_33]; omega) g_10 _ _ h114_10 hfr_10 hP hS _ (lv_sub hl [0, 1] rfl)
      refine lv_icmp_ne (tgt := 58) hx hb dX10_letter_45 (by decide) (fun c_45 => ?_) (fun c_45 => ?_)
      · skip
        have c_45 := (not_congr (nI_eq (by omega) (by omega))).mp c_45
        refine lv_ldc2 hx hb S.2.2.2.1 (S.2.2.2.2 _ m_X10_159) dX10_letter_58 ?_
        refine tpl (show (7 : Int64) = lN 7 from rfl) ?_
        exact J61 (lN 7) (by rw [if_neg c_45]; exact z_8 hlv.1) _ (lv_sub hl [0, 1] rfl)
      · skip
        have c_45 := (nI_eq (by omega) (by omega)).mp c_45
        refine lv_aload_n hx hb dX10_letter_48 rfl (lv_at hl 1 rfl) ?_
        refine mg S hK hP (by omega) h114_2 fd_X10_262 rfl dX10_letter_49 ?_
        refine lv_iconst (v := nI (1)) hx hb dX10_letter_52 (by decide) ?_
        refine lv_isub hx hb dX10_letter_53 ?_
        refine lv_i2l hx hb dX10_letter_54 rfl ?_
        refine lv_goto (tgt := 61) hx hb dX10_letter_55 (by decide) ?_
        exact J61 (((nI (fi)) - (nI (1))).toInt64) (by rw [if_pos c_45]; exact z_num hlv.1 (by omega)) _ (lv_sub hl [0, 1] rfl)
  refine lv_if_ne (tgt := 29) hx hb dX10_letter_13 (by decide) (fun c_13 => ?_) (fun c_13 => ?_)
  · skip
    have c_13 := (not_congr (z_eq (by omega))).mp c_13
    exact J29 wr2_1 wa2_1 (Or.inl ⟨Decidable.byContradiction (fun q => c_13 (hXw.2.2.1.mpr q)), (hXw.2.2.2.2.1 c_13).1, (hXw.2.2.2.2.1 c_13).2⟩) g_1 _ _ h114_1 hfr_1 hP hS _ (lv_sub hl [0, 1] rfl)
  · skip
    have c_13 := (z_eq (by omega)).mp c_13
    refine lv_aload_n hx hb dX10_letter_16 rfl (lv_at hl 1 rfl) ?_
    refine mg S hK hP (by omega) h114_1 fd_X10_240 rfl dX10_letter_17 ?_
    refine lv_iconst (v := nI (2)) hx hb dX10_letter_20 (by decide) ?_
    refine lv_icmp_eq (tgt := 29) hx hb dX10_letter_21 (by decide) (fun c_21 => ?_) (fun c_21 => ?_)
    · skip
      have c_21 := (nI_eq (by omega) (by omega)).mp c_21
      exact J29 wr2_1 wa2_1 (Or.inr (Or.inr ⟨(LXR_k2 hX (hXw.2.2.1.mp c_13)).mp c_21, c_13⟩)) g_1 _ _ h114_1 hfr_1 hP hS _ (lv_sub hl [0, 1] rfl)
    · skip
      have c_21 := (not_congr (nI_eq (by omega) (by omega))).mp c_21
      refine lv_aload_n hx hb dX10_letter_24 rfl (lv_at hl 1 rfl) ?_
      refine lv_iconst (v := nI (2)) hx hb dX10_letter_25 (by decide) ?_
      refine kMv (As := [.int (nI (2))]) (rest := []) S hK hP hS (fun _ h => h) (c_X10_fails l D cy ad N g_1 hinj (by omega) n fa he ov un la bo tp ft wr2_1 wa2_1 at2_1 sp2_1 tk2_1 vl2_1 fi nm dp wy st aP aF aH aO ps mn go vi h114_1 (by omega) 2) cv_X10_250 (by omega) h114_1 ⟨_, _, rfl⟩ ⟨rfl, rfl⟩ rfl hl.1 rfl (Nat.le_of_ble_eq_true rfl) ⟨Nat.zero_le _, Nat.zero_le _⟩ dX10_letter_26 (fun g_11 H locs q_11 hP hS => ?_)
      obtain ⟨h114_11, f_11⟩ := q_11
      have h121_11 : g_11 121 = .inl (cy 1, 160, .inl (fun x9 => nI (TP x9))) := (f_11 121 (by omega)).trans h121_1
      have h125_11 : g_11 125 = .inl (cy 1, 201, .inl (fun x9 => nI (NS x9))) := (f_11 125 (by omega)).trans h125_1
      have h126_11 : g_11 126 = .inl (cy 1, 201, .inl (fun x9 => nI (NN x9))) := (f_11 126 (by omega)).trans h126_1
      have h127_11 : g_11 127 = .inl (cy 1, 5, .inl (fun x9 => nI (BG x9))) := (f_11 127 (by omega)).trans h127_1
      have h128_11 : g_11 128 = .inl (cy 1, 5, .inl (fun x9 => nI (RD x9))) := (f_11 128 (by omega)).trans h128_1
      have h129_11 : g_11 129 = .inl (cy 1, 5, .inl (fun x9 => nI (IT x9))) := (f_11 129 (by omega)).trans h129_1
      have h122_11 : g_11 122 = .inl (cy 1, 8, .inl (fun x9 => nI (BY x9))) := (f_11 122 (by omega)).trans h122_1
      have h123_11 : g_11 123 = .inl (cy 1, 1600, .inl (fun x9 => nI (BS x9))) := (f_11 123 (by omega)).trans h123_1
      have h124_11 : g_11 124 = .inl (cy 1, 1600, .inl (fun x9 => nI (BN x9))) := (f_11 124 (by omega)).trans h124_1
      have hfr_11 : ∀ j : Nat, j ≠ 114 → g_11 j = g j := fun j n0 => (f_11 j n0).trans (hfr_1 j n0)
      exact J29 (if wr2_1 = 0 then 2 else wr2_1) (if wr2_1 = 0 then sp2_1 else wa2_1) (Or.inr (Or.inl ⟨hXw.2.2.1.mp c_13, fun q => c_21 ((LXR_k2 hX (hXw.2.2.1.mp c_13)).mpr q), if_pos c_13, by rw [if_pos c_13]; exact hXw.2.2.2.1⟩)) g_11 _ _ h114_11 hfr_11 hP hS _ (lv_sub hl [0, 1] rfl)

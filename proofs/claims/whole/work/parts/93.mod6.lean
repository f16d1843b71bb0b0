set_option maxHeartbeats 4000000 in
set_option maxRecDepth 100000 in
theorem c_X10_isFigure (l : Launch) (D : va_G) (cy : Nat → ClassId) (ad : Nat → Nat) (N : Nat) (g : Nat → va_E) (hN : 145 ≤ N) (n : Nat) (fa : Nat) (he : Nat) (ov : Nat) (un : Nat) (la : Int32) (bo : Int32) (tp : Nat) (ft : Int32) (wr0 : Nat) (wa : Nat) (at0 : Nat) (sp : Nat) (tk : Nat) (vl : Int32) (fi : Nat) (nm : Nat) (dp : Nat) (wy : Int32) (st : Int32) (aP : Nat) (aF : Nat) (aH : Nat) (aO : Nat) (ps : Nat) (mn : Nat) (go : Int32) (vi : Nat) (hM : g 114 = mob ad (nI (n)) (nI (fa)) (nI (he)) (lN ov) (nI (un)) la bo (nI (tp)) ft (nI (wr0)) (nI (wa)) (nI (at0)) (nI (sp)) (nI (tk)) vl (nI (fi)) (nI (nm)) (nI (dp)) wy st (nI (aP)) (nI (aF)) (nI (aH)) (lN aO) (nI (ps)) (nI (mn)) go (nI (vi))) (hfi : fi ≤ 8) (x0 : Int32) : Met l yX10_isFigure (WS yX10_isFigure cX10_isFigure 2 (some .boolean)) (rmF 1 25) (PP [.ref (ad 114), .int x0] D cy ad N g) (vp_Si (fun r => r = if isI x0 fi then 1 else 0)) 0 0 (fun _ => False) := by
  refine mentry (by decide) (Nat.le_of_ble_eq_true rfl) (fun p e s m below meth c ls S hr hlk hnm hP hK hl => ?_)
  have S : CallFix p m c cX10_isFigure 2 s _ wsL_law RX10 := S
  have hx := S.1
  have hb := S.2.1
  have hl : lv_has ls 2 [(0, .ref (ad 114)), (1, .int x0)] := hl
  refine lv_iload_n hx hb dX10_isFigure_0 rfl (lv_at hl 1 rfl) ?_
  refine lv_i2l hx hb dX10_isFigure_1 rfl ?_
  refine lv_lconst (v := lN 0) hx hb dX10_isFigure_2 (by decide) ?_
  refine lv_aload_n hx hb dX10_isFigure_3 rfl (lv_at hl 0 rfl) ?_
  refine mg S hK hP (by omega) hM fd_X10_262 rfl dX10_isFigure_4 ?_
  refine lv_iconst (v := nI (1)) hx hb dX10_isFigure_7 (by decide) ?_
  refine lv_isub hx hb dX10_isFigure_8 ?_
  refine lv_i2l hx hb dX10_isFigure_9 rfl ?_
  refine kSi (As := [.long x0.toInt64, .long (lN 0), .long (((nI (fi)) - (nI (1))).toInt64)]) (rest := []) S hK hP (c_X10_in l D cy ad N g x0.toInt64 (lN 0) (((nI (fi)) - (nI (1))).toInt64)) cs_X10_115 ⟨rfl, rfl⟩ rfl hl.1 rfl (Nat.le_of_ble_eq_true rfl) ⟨Nat.zero_le _, Nat.zero_le _⟩ dX10_isFigure_10 (fun r_10 q_10 => ?_)
  subst q_10
  refine tpi (ifC (in_00 (by omega))) ?_
  exact rSz S hr hlk ((b01 _)) rfl dX10_isFigure_13
set_option maxHeartbeats 4000000 in
set_option maxRecDepth 100000 in
theorem c_X10_isPose (l : Launch) (D : va_G) (cy : Nat → ClassId) (ad : Nat → Nat) (N : Nat) (g : Nat → va_E) (hN : 145 ≤ N) (n : Nat) (fa : Nat) (he : Nat) (ov : Nat) (un : Nat) (la : Int32) (bo : Int32) (tp : Nat) (ft : Int32) (wr0 : Nat) (wa : Nat) (at0 : Nat) (sp : Nat) (tk : Nat) (vl : Int32) (fi : Nat) (nm : Nat) (dp : Nat) (wy : Int32) (st : Int32) (aP : Nat) (aF : Nat) (aH : Nat) (aO : Nat) (ps : Nat) (mn : Nat) (go : Int32) (vi : Nat) (hM : g 114 = mob ad (nI (n)) (nI (fa)) (nI (he)) (lN ov) (nI (un)) la bo (nI (tp)) ft (nI (wr0)) (nI (wa)) (nI (at0)) (nI (sp)) (nI (tk)) vl (nI (fi)) (nI (nm)) (nI (dp)) wy st (nI (aP)) (nI (aF)) (nI (aH)) (lN aO) (nI (ps)) (nI (mn)) go (nI (vi))) (hps : ps ≤ 6) (x0 : Int32) : Met l yX10_isPose (WS yX10_isPose cX10_isPose 2 (some .boolean)) (rmF 1 25) (PP [.ref (ad 114), .int x0] D cy ad N g) (vp_Si (fun r => r = if isI x0 ps then 1 else 0)) 0 0 (fun _ => False) := by
  refine mentry (by decide) (Nat.le_of_ble_eq_true rfl) (fun p e s m below meth c ls S hr hlk hnm hP hK hl => ?_)
  have S : CallFix p m c cX10_isPose 2 s _ wsL_law RX10 := S
  have hx := S.1
  have hb := S.2.1
  have hl : lv_has ls 2 [(0, .ref (ad 114)), (1, .int x0)] := hl
  refine lv_iload_n hx hb dX10_isPose_0 rfl (lv_at hl 1 rfl) ?_
  refine lv_i2l hx hb dX10_isPose_1 rfl ?_
  refine lv_lconst (v := lN 0) hx hb dX10_isPose_2 (by decide) ?_
  refine lv_aload_n hx hb dX10_isPose_3 rfl (lv_at hl 0 rfl) ?_
  refine mg S hK hP (by omega) hM fd_X10_126 rfl dX10_isPose_4 ?_
  refine lv_iconst (v := nI (1)) hx hb dX10_isPose_7 (by decide) ?_
  refine lv_isub hx hb dX10_isPose_8 ?_
  refine lv_i2l hx hb dX10_isPose_9 rfl ?_
  refine kSi (As := [.long x0.toInt64, .long (lN 0), .long (((nI (ps)) - (nI (1))).toInt64)]) (rest := []) S hK hP (c_X10_in l D cy ad N g x0.toInt64 (lN 0) (((nI (ps)) - (nI (1))).toInt64)) cs_X10_115 ⟨rfl, rfl⟩ rfl hl.1 rfl (Nat.le_of_ble_eq_true rfl) ⟨Nat.zero_le _, Nat.zero_le _⟩ dX10_isPose_10 (fun r_10 q_10 => ?_)
  subst q_10
  refine tpi (ifC (in_00 (by omega))) ?_
  exact rSz S hr hlk ((b01 _)) rfl dX10_isPose_13
set_option maxHeartbeats 4000000 in
set_option maxRecDepth 100000 in
theorem c_X10_isVillage (l : Launch) (D : va_G) (cy : Nat → ClassId) (ad : Nat → Nat) (N : Nat) (g : Nat → va_E) (hN : 145 ≤ N) (n : Nat) (fa : Nat) (he : Nat) (ov : Nat) (un : Nat) (la : Int32) (bo : Int32) (tp : Nat) (ft : Int32) (wr0 : Nat) (wa : Nat) (at0 : Nat) (sp : Nat) (tk : Nat) (vl : Int32) (fi : Nat) (nm : Nat) (dp : Nat) (wy : Int32) (st : Int32) (aP : Nat) (aF : Nat) (aH : Nat) (aO : Nat) (ps : Nat) (mn : Nat) (go : Int32) (vi : Nat) (hM : g 114 = mob ad (nI (n)) (nI (fa)) (nI (he)) (lN ov) (nI (un)) la bo (nI (tp)) ft (nI (wr0)) (nI (wa)) (nI (at0)) (nI (sp)) (nI (tk)) vl (nI (fi)) (nI (nm)) (nI (dp)) wy st (nI (aP)) (nI (aF)) (nI (aH)) (lN aO) (nI (ps)) (nI (mn)) go (nI (vi))) (hvi : vi ≤ 4) (x0 : Int32) : Met l yX10_isVillage (WS yX10_isVillage cX10_isVillage 2 (some .boolean)) (rmF 1 25) (PP [.ref (ad 114), .int x0] D cy ad N g) (vp_Si (fun r => r = if isI x0 vi then 1 else 0)) 0 0 (fun _ => False) := by
  refine mentry (by decide) (Nat.le_of_ble_eq_true rfl) (fun p e s m below meth c ls S hr hlk hnm hP hK hl => ?_)
  have S : CallFix p m c cX10_isVillage 2 s _ wsL_law RX10 := S
  have hx := S.1
  have hb := S.2.1
  have hl : lv_has ls 2 [(0, .ref (ad 114)), (1, .int x0)] := hl
  refine lv_iload_n hx hb dX10_isVillage_0 rfl (lv_at hl 1 rfl) ?_
  refine lv_i2l hx hb dX10_isVillage_1 rfl ?_
  refine lv_lconst (v := lN 0) hx hb dX10_isVillage_2 (by decide) ?_
  refine lv_aload_n hx hb dX10_isVillage_3 rfl (lv_at hl 0 rfl) ?_
  refine mg S hK hP (by omega) hM fd_X10_360 rfl dX10_isVillage_4 ?_
  refine lv_iconst (v := nI (1)) hx hb dX10_isVillage_7 (by decide) ?_
  refine lv_isub hx hb dX10_isVillage_8 ?_
  refine lv_i2l hx hb dX10_isVillage_9 rfl ?_
  refine kSi (As := [.long x0.toInt64, .long (lN 0), .long (((nI (vi)) - (nI (1))).toInt64)]) (rest := []) S hK hP (c_X10_in l D cy ad N g x0.toInt64 (lN 0) (((nI (vi)) - (nI (1))).toInt64)) cs_X10_115 ⟨rfl, rfl⟩ rfl hl.1 rfl (Nat.le_of_ble_eq_true rfl) ⟨Nat.zero_le _, Nat.zero_le _⟩ dX10_isVillage_10 (fun r_10 q_10 => ?_)
  subst q_10
  refine tpi (ifC (in_00 (by omega))) ?_
  exact rSz S hr hlk ((b01 _)) rfl dX10_isVillage_13
set_option maxHeartbeats 4000000 in
set_option maxRecDepth 100000 in
theorem c_X10_dance (l : Launch) (D : va_G) (cy : Nat → ClassId) (ad : Nat → Nat) (N : Nat) (g : Nat → va_E) (hinj : ∀ i j : Nat, i < N → j < N → ad i = ad j → i = j) (hN : 145 ≤ N) (F : FS) (la : Int32) (bo : Int32) (tp : Nat) (ft : Int32) (wr0 : Nat) (wa : Nat) (at0 : Nat) (sp : Nat) (tk : Nat) (vl : Int32) (fi : Nat) (nm : Nat) (dp : Nat) (wy : Int32) (st : Int32) (aP : Nat) (aF : Nat) (aH : Nat) (aO : Nat) (ps : Nat) (mn : Nat) (go : Int32) (vi : Nat) (hM : g 114 = mob ad (nI (wn F.1)) (nI (wf F.1)) (nI (wh F.1)) (lN (wo F.1)) (nI (F.2.2.2)) la bo (nI (tp)) ft (nI (wr0)) (nI (wa)) (nI (at0)) (nI (sp)) (nI (tk)) vl (nI (fi)) (nI (nm)) (nI (dp)) wy st (nI (aP)) (nI (aF)) (nI (aH)) (lN aO) (nI (ps)) (nI (mn)) go (nI (vi))) (P : Nat → Nat) (hP9 : g 115 = .inl (cy 1, 8, .inl (fun x9 => nI (P x9)))) (hF : FOK F) (hPw : ∀ i, i < wn F.1 → P i = wp F.1 i) (OP : Nat → Nat) (hO1 : g 116 = .inl (cy 1, 12, .inl (fun x9 => nI (OP x9)))) (OF : Nat → Nat) (hO2 : g 117 = .inl (cy 1, 12, .inl (fun x9 => nI (OF x9)))) (OH : Nat → Nat) (hO3 : g 118 = .inl (cy 1, 12, .inl (fun x9 => nI (OH x9)))) (OO : Nat → Int64) (hO4 : g 119 = .inl (cy 2, 12, .inr (.inl OO))) (hUR : UR F OP OF OH OO) (BY : Nat → Nat) (hBY : g 122 = .inl (cy 1, 8, .inl (fun x9 => nI (BY x9)))) (BS : Nat → Nat) (hBS : g 123 = .inl (cy 1, 1600, .inl (fun x9 => nI (BS x9)))) (BN : Nat → Nat) (hBN : g 124 = .inl (cy 1, 1600, .inl (fun x9 => nI (BN x9)))) (Fl : Nat → Nat) (FB : Nat → Nat → Nat) (hfi : fi ≤ 8) (hFR : FR fi BY BS BN Fl FB) (x0 : Int32) : Met l yX10_dance (WS yX10_dance cX10_dance 3 (some .int)) (rmF 6 155) (PP [.ref (ad 114), .int x0] D cy ad N g) (QI (fun r g1 => ∃ (P2 : Nat → Nat), ∃ (OP2 : Nat → Nat), ∃ (OF2 : Nat → Nat), ∃ (OH2 : Nat → Nat), ∃ (OO2 : Nat → Int64), ∃ (st2 : Int32), (r = if isI x0 fi then dnF (rn (FB x0.toNatClampNeg) (Fl x0.toNatClampNeg) 0 F (Fl x0.toNatClampNeg)) else -1) ∧ (∀ i, i < wn F.1 → P2 i = wp (if isI x0 fi then (rn (FB x0.toNatClampNeg) (Fl x0.toNatClampNeg) 0 F (Fl x0.toNatClampNeg)).2.2 else F).1 i) ∧ (UR (if isI x0 fi then (rn (FB x0.toNatClampNeg) (Fl x0.toNatClampNeg) 0 F (Fl x0.toNatClampNeg)).2.2 else F) OP2 OF2 OH2 OO2) ∧ g1 114 = mob ad (nI (wn F.1)) (nI (wf (if isI x0 fi then (rn (FB x0.toNatClampNeg) (Fl x0.toNatClampNeg) 0 F (Fl x0.toNatClampNeg)).2.2 else F).1)) (nI (wh (if isI x0 fi then (rn (FB x0.toNatClampNeg) (Fl x0.toNatClampNeg) 0 F (Fl x0.toNatClampNeg)).2.2 else F).1)) (lN (wo (if isI x0 fi then (rn (FB x0.toNatClampNeg) (Fl x0.toNatClampNeg) 0 F (Fl x0.toNatClampNeg)).2.2 else F).1)) (nI ((if isI x0 fi then (rn (FB x0.toNatClampNeg) (Fl x0.toNatClampNeg) 0 F (Fl x0.toNatClampNeg)).2.2 else F).2.2.2)) la bo (nI (tp)) ft (nI (wr0)) (nI (wa)) (nI (at0)) (nI (sp)) (nI (tk)) vl (nI (fi)) (nI (nm)) (nI (dp)) (if isI x0 fi then (rn (FB x0.toNatClampNeg) (Fl x0.toNatClampNeg) 0 F (Fl x0.toNatClampNeg)).2.1 else wy) st2 (nI (aP)) (nI (aF)) (nI (aH)) (lN aO) (nI (ps)) (nI (mn)) go (nI (vi)) ∧ g1 115 = .inl (cy 1, 8, .inl (fun x9 => nI (P2 x9))) ∧ g1 116 = .inl (cy 1, 12, .inl (fun x9 => nI (OP2 x9))) ∧ g1 117 = .inl (cy 1, 12, .inl (fun x9 => nI (OF2 x9))) ∧ g1 118 = .inl (cy 1, 12, .inl (fun x9 => nI (OH2 x9))) ∧ g1 119 = .inl (cy 2, 12, .inr (.inl OO2)) ∧ (∀ j, j ≠ 114 → j ≠ 115 → j ≠ 116 → j ≠ 117 → j ≠ 118 → j ≠ 119 → g1 j = g j)) D ad N) 0 0 (AA ad N) := by
  refine mentry (by decide) (Nat.le_of_ble_eq_true rfl) (fun p e s m below meth c ls S hr hlk hnm hP hK hl => ?_)
  have S : CallFix p m c cX10_dance 3 s _ wsL_law RX10 := S
  have hx := S.1
  have hb := S.2.1
  have hl : lv_has ls 3 [(0, .ref (ad 114)), (1, .int x0)] := hl
  have hI : MD (AA ad N) ad N := MD.in hinj
  have hS : va_S (AA ad N) s.heap s.heap [] := va_S.rf
  have hfr : ∀ j : Nat, g j = g j := fun _ => rfl
  refine lv_aload_n hx hb dX10_dance_0 rfl (lv_at hl 0 rfl) ?_
  refine lv_iload_n hx hb dX10_dance_1 rfl (lv_at hl 1 rfl) ?_
  refine kVi (As := [.int x0]) (rest := []) S hK hP (c_X10_isFigure l D cy ad N g (by omega) (wn F.1) (wf F.1) (wh F.1) (wo F.1) F.2.2.2 la bo tp ft wr0 wa at0 sp tk vl fi nm dp wy st aP aF aH aO ps mn go vi hM hfi x0) cv_X10_286 (by omega) hM ⟨_, _, rfl⟩ ⟨rfl, rfl⟩ rfl hl.1 rfl (Nat.le_of_ble_eq_true rfl) ⟨Nat.zero_le _, Nat.zero_le _⟩ dX10_dance_2 (fun r_2 q_2 => ?_)
  subst q_2
  refine lv_if_ne (tgt := 10) hx hb dX10_dance_5 (by decide) (fun c_5 => ?_) (fun c_5 => ?_)
  · skip
    have c_5 := bz_ne.mp c_5
    obtain ⟨f0, hf0b, rfl⟩ := isI_nat (by omega) c_5
    have hJ := c_5
    have hf031 : f0 < 2 ^ 31 := by omega
    refine lv_aload_n hx hb dX10_dance_10 rfl (lv_at hl 0 rfl) ?_
    refine lv_iload_n hx hb dX10_dance_11 rfl (lv_at hl 1 rfl) ?_
    refine lv_iconst (v := nI (1)) hx hb dX10_dance_12 (by decide) ?_
    refine kMi (As := [.int (nI (f0)), .int (nI (1))]) (rest := []) S hK hP hS (fun _ h => h) (c_X10_goes1 l D cy ad N g hinj (by omega) F la bo tp ft wr0 wa at0 sp tk vl fi nm dp wy st aP aF aH aO ps mn go vi hM P hP9 hF hPw OP hO1 OF hO2 OH hO3 OO hO4 hUR BY hBY BS hBS BN hBN Fl FB hfi hFR f0 hf0b) cv_X10_296 (by omega) hM ⟨_, _, rfl⟩ ⟨rfl, rfl⟩ rfl hl.1 rfl (Nat.le_of_ble_eq_true rfl) ⟨Nat.zero_le _, Nat.zero_le _⟩ dX10_dance_13 (fun r_13 g_1 H locs q_1 hP hS => ?_)
    obtain ⟨P2_1, OP2_1, OF2_1, OH2_1, OO2_1, q_13, hP2_1, hUR2_1, h114_1, h115_1, h116_1, h117_1, h118_1, h119_1, f_1⟩ := q_1
    subst q_13
    have h122_1 : g_1 122 = .inl (cy 1, 8, .inl (fun x9 => nI (BY x9))) := (f_1 122 (by omega) (by omega) (by omega) (by omega) (by omega) (by omega)).trans hBY
    have h123_1 : g_1 123 = .inl (cy 1, 1600, .inl (fun x9 => nI (BS x9))) := (f_1 123 (by omega) (by omega) (by omega) (by omega) (by omega) (by omega)).trans hBS
    have h124_1 : g_1 124 = .inl (cy 1, 1600, .inl (fun x9 => nI (BN x9))) := (f_1 124 (by omega) (by omega) (by omega) (by omega) (by omega) (by omega)).trans hBN
    have hfr_1 : ∀ j : Nat, j ≠ 114 → j ≠ 115 → j ≠ 116 → j ≠ 117 → j ≠ 118 → j ≠ 119 → g_1 j = g j := fun j n0 n1 n2 n3 n4 n5 => (f_1 j n0 n1 n2 n3 n4 n5).trans (hfr j )
    refine lv_istore_n (lv' := [(2, .int (dnF (rn (FB f0) (Fl f0) 0 F (Fl f0)))), (0, .ref (ad 114)), (1, .int (nI (f0)))]) hx hb dX10_dance_16 rfl hl (by decide) rfl (fun ls hl => ?_)
    refine lv_aload_n hx hb dX10_dance_17 rfl (lv_at hl 1 rfl) ?_
    refine lv_aload_n hx hb dX10_dance_18 rfl (lv_at hl 1 rfl) ?_
    refine mg S hK hP (by omega) h114_1 fd_X10_293 rfl dX10_dance_19 ?_
    refine mp S hK hP hI hS (by omega) h114_1 fd_X10_300 rfl rfl (Nat.le_of_ble_eq_true rfl) dX10_dance_22 (fun g_2 H locs eg_2 hP hS => ?_)
    have h114_2 : g_2 114 = mob ad (nI (wn F.1)) (nI (wf (rn (FB f0) (Fl f0) 0 F (Fl f0)).2.2.1)) (nI (wh (rn (FB f0) (Fl f0) 0 F (Fl f0)).2.2.1)) (lN (wo (rn (FB f0) (Fl f0) 0 F (Fl f0)).2.2.1)) (nI ((rn (FB f0) (Fl f0) 0 F (Fl f0)).2.2.2.2.2)) la bo (nI (tp)) ft (nI (wr0)) (nI (wa)) (nI (at0)) (nI (sp)) (nI (tk)) vl (nI (fi)) (nI (nm)) (nI (dp)) ((rn (FB f0) (Fl f0) 0 F (Fl f0)).2.1) ((rn (FB f0) (Fl f0) 0 F (Fl f0)).2.1) (nI (aP)) (nI (aF)) (nI (aH)) (lN aO) (nI (ps)) (nI (mn)) go (nI (vi)) := by rw [eg_2, va_up_self]; exact rfl
    have h115_2 : g_2 115 = .inl (cy 1, 8, .inl (fun x9 => nI (P2_1 x9))) := ((congrFun eg_2 _).trans (va_up_ne _ _ (by omega))).trans h115_1
    have h116_2 : g_2 116 = .inl (cy 1, 12, .inl (fun x9 => nI (OP2_1 x9))) := ((congrFun eg_2 _).trans (va_up_ne _ _ (by omega))).trans h116_1
    have h117_2 : g_2 117 = .inl (cy 1, 12, .inl (fun x9 => nI (OF2_1 x9))) := ((congrFun eg_2 _).trans (va_up_ne _ _ (by omega))).trans h117_1
    have h118_2 : g_2 118 = .inl (cy 1, 12, .inl (fun x9 => nI (OH2_1 x9))) := ((congrFun eg_2 _).trans (va_up_ne _ _ (by omega))).trans h118_1
    have h119_2 : g_2 119 = .inl (cy 2, 12, .inr (.inl OO2_1)) := ((congrFun eg_2 _).trans (va_up_ne _ _ (by omega))).trans h119_1
    have h122_2 : g_2 122 = .inl (cy 1, 8, .inl (fun x9 => nI (BY x9))) := ((congrFun eg_2 _).trans (va_up_ne _ _ (by omega))).trans h122_1
    have h123_2 : g_2 123 = .inl (cy 1, 1600, .inl (fun x9 => nI (BS x9))) := ((congrFun eg_2 _).trans (va_up_ne _ _ (by omega))).trans h123_1
    have h124_2 : g_2 124 = .inl (cy 1, 1600, .inl (fun x9 => nI (BN x9))) := ((congrFun eg_2 _).trans (va_up_ne _ _ (by omega))).trans h124_1
    have hfr_2 : ∀ j : Nat, j ≠ 114 → j ≠ 115 → j ≠ 116 → j ≠ 117 → j ≠ 118 → j ≠ 119 → g_2 j = g j := fun j n0 n1 n2 n3 n4 n5 => ((congrFun eg_2 _).trans (va_up_ne _ _ n0)).trans (hfr_1 j n0 n1 n2 n3 n4 n5)
    refine lv_iload_n hx hb dX10_dance_25 rfl (lv_at hl 0 rfl) ?_
    exact rMi S hr hlk hP hS ⟨_, _, _, _, _, _, (by simp only [if_pos hJ, nI_clamp hf031]), (by simp only [if_pos hJ, nI_clamp hf031]; exact hP2_1), (by simp only [if_pos hJ, nI_clamp hf031]; exact hUR2_1), (by simp only [if_pos hJ, nI_clamp hf031]; exact h114_2), h115_2, h116_2, h117_2, h118_2, h119_2, hfr_2⟩ dX10_dance_26
  · skip
    have c_5 := bz_eq.mp c_5
    have hJ : ¬ isI x0 fi := c_5
    refine lv_iconst (v := (-1)) hx hb dX10_dance_8 (by decide) ?_
    exact rMi S hr hlk hP hS ⟨_, _, _, _, _, _, (if_neg hJ).symm, (by simp only [if_neg hJ]; exact hPw), (by simp only [if_neg hJ]; exact hUR), (by simp only [if_neg hJ]; exact hM), hP9, hO1, hO2, hO3, hO4, (fun j n0 n1 n2 n3 n4 n5 => hfr j )⟩ dX10_dance_9
set_option maxHeartbeats 4000000 in
set_option maxRecDepth 100000 in
theorem c_X10_back (l : Launch) (D : va_G) (cy : Nat → ClassId) (ad : Nat → Nat) (N : Nat) (g : Nat → va_E) (hinj : ∀ i j : Nat, i < N → j < N → ad i = ad j → i = j) (hN : 145 ≤ N) (F : FS) (la : Int32) (bo : Int32) (tp : Nat) (ft : Int32) (wr0 : Nat) (wa : Nat) (at0 : Nat) (sp : Nat) (tk : Nat) (vl : Int32) (fi : Nat) (nm : Nat) (dp : Nat) (wy : Int32) (st : Int32) (aP : Nat) (aF : Nat) (aH : Nat) (aO : Nat) (ps : Nat) (mn : Nat) (go : Int32) (vi : Nat) (hM : g 114 = mob ad (nI (wn F.1)) (nI (wf F.1)) (nI (wh F.1)) (lN (wo F.1)) (nI (F.2.2.2)) la bo (nI (tp)) ft (nI (wr0)) (nI (wa)) (nI (at0)) (nI (sp)) (nI (tk)) vl (nI (fi)) (nI (nm)) (nI (dp)) wy st (nI (aP)) (nI (aF)) (nI (aH)) (lN aO) (nI (ps)) (nI (mn)) go (nI (vi))) (P : Nat → Nat) (hP9 : g 115 = .inl (cy 1, 8, .inl (fun x9 => nI (P x9)))) (hF : FOK F) (hPw : ∀ i, i < wn F.1 → P i = wp F.1 i) (OP : Nat → Nat) (hO1 : g 116 = .inl (cy 1, 12, .inl (fun x9 => nI (OP x9)))) (OF : Nat → Nat) (hO2 : g 117 = .inl (cy 1, 12, .inl (fun x9 => nI (OF x9)))) (OH : Nat → Nat) (hO3 : g 118 = .inl (cy 1, 12, .inl (fun x9 => nI (OH x9)))) (OO : Nat → Int64) (hO4 : g 119 = .inl (cy 2, 12, .inr (.inl OO))) (hUR : UR F OP OF OH OO) (BY : Nat → Nat) (hBY : g 122 = .inl (cy 1, 8, .inl (fun x9 => nI (BY x9)))) (BS : Nat → Nat) (hBS : g 123 = .inl (cy 1, 1600, .inl (fun x9 => nI (BS x9)))) (BN : Nat → Nat) (hBN : g 124 = .inl (cy 1, 1600, .inl (fun x9 => nI (BN x9)))) (Fl : Nat → Nat) (FB : Nat → Nat → Nat) (hfi : fi ≤ 8) (hFR : FR fi BY BS BN Fl FB) (x0 : Int32) : Met l yX10_back (WS yX10_back cX10_back 3 (some .int)) (rmF 6 157) (PP [.ref (ad 114), .int x0] D cy ad N g) (QI (fun r g1 => ∃ (P2 : Nat → Nat), ∃ (OP2 : Nat → Nat), ∃ (OF2 : Nat → Nat), ∃ (OH2 : Nat → Nat), ∃ (OO2 : Nat → Int64), ∃ (st2 : Int32), (r = if isI x0 fi then dnF (rn (FB x0.toNatClampNeg) (Fl x0.toNatClampNeg) 1 F (Fl x0.toNatClampNeg)) else -1) ∧ (∀ i, i < wn F.1 → P2 i = wp (if isI x0 fi then (rn (FB x0.toNatClampNeg) (Fl x0.toNatClampNeg) 1 F (Fl x0.toNatClampNeg)).2.2 else F).1 i) ∧ (UR (if isI x0 fi then (rn (FB x0.toNatClampNeg) (Fl x0.toNatClampNeg) 1 F (Fl x0.toNatClampNeg)).2.2 else F) OP2 OF2 OH2 OO2) ∧ g1 114 = mob ad (nI (wn F.1)) (nI (wf (if isI x0 fi then (rn (FB x0.toNatClampNeg) (Fl x0.toNatClampNeg) 1 F (Fl x0.toNatClampNeg)).2.2 else F).1)) (nI (wh (if isI x0 fi then (rn (FB x0.toNatClampNeg) (Fl x0.toNatClampNeg) 1 F (Fl x0.toNatClampNeg)).2.2 else F).1)) (lN (wo (if isI x0 fi then (rn (FB x0.toNatClampNeg) (Fl x0.toNatClampNeg) 1 F (Fl x0.toNatClampNeg)).2.2 else F).1)) (nI ((if isI x0 fi then (rn (FB x0.toNatClampNeg) (Fl x0.toNatClampNeg) 1 F (Fl x0.toNatClampNeg)).2.2 else F).2.2.2)) la bo (nI (tp)) ft (nI (wr0)) (nI (wa)) (nI (at0)) (nI (sp)) (nI (tk)) vl (nI (fi)) (nI (nm)) (nI (dp)) (if isI x0 fi then (rn (FB x0.toNatClampNeg) (Fl x0.toNatClampNeg) 1 F (Fl x0.toNatClampNeg)).2.1 else wy) st2 (nI (aP)) (nI (aF)) (nI (aH)) (lN aO) (nI (ps)) (nI (mn)) go (nI (vi)) ∧ g1 115 = .inl (cy 1, 8, .inl (fun x9 => nI (P2 x9))) ∧ g1 116 = .inl (cy 1, 12, .inl (fun x9 => nI (OP2 x9))) ∧ g1 117 = .inl (cy 1, 12, .inl (fun x9 => nI (OF2 x9))) ∧ g1 118 = .inl (cy 1, 12, .inl (fun x9 => nI (OH2 x9))) ∧ g1 119 = .inl (cy 2, 12, .inr (.inl OO2)) ∧ (∀ j, j ≠ 114 → j ≠ 115 → j ≠ 116 → j ≠ 117 → j ≠ 118 → j ≠ 119 → g1 j = g j)) D ad N) 0 0 (AA ad N) := by
  refine mentry (by decide) (Nat.le_of_ble_eq_true rfl) (fun p e s m below meth c ls S hr hlk hnm hP hK hl => ?_)
  have S : CallFix p m c cX10_back 3 s _ wsL_law RX10 := S
  have hx := S.1
  have hb := S.2.1
  have hl : lv_has ls 3 [(0, .ref (ad 114)), (1, .int x0)] := hl
  have hI : MD (AA ad N) ad N := MD.in hinj
  have hS : va_S (AA ad N) s.heap s.heap [] := va_S.rf
  have hfr : ∀ j : Nat, g j = g j := fun _ => rfl
  refine lv_aload_n hx hb dX10_back_0 rfl (lv_at hl 0 rfl) ?_
  refine lv_iload_n hx hb dX10_back_1 rfl (lv_at hl 1 rfl) ?_
  refine kVi (As := [.int x0]) (rest := []) S hK hP (c_X10_isFigure l D cy ad N g (by omega) (wn F.1) (wf F.1) (wh F.1) (wo F.1) F.2.2.2 la bo tp ft wr0 wa at0 sp tk vl fi nm dp wy st aP aF aH aO ps mn go vi hM hfi x0) cv_X10_286 (by omega) hM ⟨_, _, rfl⟩ ⟨rfl, rfl⟩ rfl hl.1 rfl (Nat.le_of_ble_eq_true rfl) ⟨Nat.zero_le _, Nat.zero_le _⟩ dX10_back_2 (fun r_2 q_2 => ?_)
  subst q_2
  refine lv_if_ne (tgt := 10) hx hb dX10_back_5 (by decide) (fun c_5 => ?_) (fun c_5 => ?_)
  · skip
    have c_5 := bz_ne.mp c_5
    obtain ⟨f0, hf0b, rfl⟩ := isI_nat (by omega) c_5
    have hJ := c_5
    have hf031 : f0 < 2 ^ 31 := by omega
    refine lv_aload_n hx hb dX10_back_10 rfl (lv_at hl 0 rfl) ?_
    refine lv_iload_n hx hb dX10_back_11 rfl (lv_at hl 1 rfl) ?_
    refine lv_iconst (v := nI (1)) hx hb dX10_back_12 (by decide) ?_
    refine kMi (As := [.int (nI (f0)), .int (nI (1))]) (rest := []) S hK hP hS (fun _ h => h) (c_X10_goesBack1 l D cy ad N g hinj (by omega) F la bo tp ft wr0 wa at0 sp tk vl fi nm dp wy st aP aF aH aO ps mn go vi hM P hP9 hF hPw OP hO1 OF hO2 OH hO3 OO hO4 hUR BY hBY BS hBS BN hBN Fl FB hfi hFR f0 hf0b) cv_X10_303 (by omega) hM ⟨_, _, rfl⟩ ⟨rfl, rfl⟩ rfl hl.1 rfl (Nat.le_of_ble_eq_true rfl) ⟨Nat.zero_le _, Nat.zero_le _⟩ dX10_back_13 (fun r_13 g_1 H locs q_1 hP hS => ?_)
    obtain ⟨P2_1, OP2_1, OF2_1, OH2_1, OO2_1, q_13, hP2_1, hUR2_1, h114_1, h115_1, h116_1, h117_1, h118_1, h119_1, f_1⟩ := q_1
    subst q_13
    have h122_1 : g_1 122 = .inl (cy 1, 8, .inl (fun x9 => nI (BY x9))) := (f_1 122 (by omega) (by omega) (by omega) (by omega) (by omega) (by omega)).trans hBY
    have h123_1 : g_1 123 = .inl (cy 1, 1600, .inl (fun x9 => nI (BS x9))) := (f_1 123 (by omega) (by omega) (by omega) (by omega) (by omega) (by omega)).trans hBS
    have h124_1 : g_1 124 = .inl (cy 1, 1600, .inl (fun x9 => nI (BN x9))) := (f_1 124 (by omega) (by omega) (by omega) (by omega) (by omega) (by omega)).trans hBN
    have hfr_1 : ∀ j : Nat, j ≠ 114 → j ≠ 115 → j ≠ 116 → j ≠ 117 → j ≠ 118 → j ≠ 119 → g_1 j = g j := fun j n0 n1 n2 n3 n4 n5 => (f_1 j n0 n1 n2 n3 n4 n5).trans (hfr j )
    refine lv_istore_n (lv' := [(2, .int (dnF (rn (FB f0) (Fl f0) 1 F (Fl f0)))), (0, .ref (ad 114)), (1, .int (nI (f0)))]) hx hb dX10_back_16 rfl hl (by decide) rfl (fun ls hl => ?_)
    refine lv_aload_n hx hb dX10_back_17 rfl (lv_at hl 1 rfl) ?_
    refine lv_aload_n hx hb dX10_back_18 rfl (lv_at hl 1 rfl) ?_
    refine mg S hK hP (by omega) h114_1 fd_X10_293 rfl dX10_back_19 ?_
    refine mp S hK hP hI hS (by omega) h114_1 fd_X10_300 rfl rfl (Nat.le_of_ble_eq_true rfl) dX10_back_22 (fun g_2 H locs eg_2 hP hS => ?_)
    have h114_2 : g_2 114 = mob ad (nI (wn F.1)) (nI (wf (rn (FB f0) (Fl f0) 1 F (Fl f0)).2.2.1)) (nI (wh (rn (FB f0) (Fl f0) 1 F (Fl f0)).2.2.1)) (lN (wo (rn (FB f0) (Fl f0) 1 F (Fl f0)).2.2.1)) (nI ((rn (FB f0) (Fl f0) 1 F (Fl f0)).2.2.2.2.2)) la bo (nI (tp)) ft (nI (wr0)) (nI (wa)) (nI (at0)) (nI (sp)) (nI (tk)) vl (nI (fi)) (nI (nm)) (nI (dp)) ((rn (FB f0) (Fl f0) 1 F (Fl f0)).2.1) ((rn (FB f0) (Fl f0) 1 F (Fl f0)).2.1) (nI (aP)) (nI (aF)) (nI (aH)) (lN aO) (nI (ps)) (nI (mn)) go (nI (vi)) := by rw [eg_2, va_up_self]; exact rfl
    have h115_2 : g_2 115 = .inl (cy 1, 8, .inl (fun x9 => nI (P2_1 x9))) := ((congrFun eg_2 _).trans (va_up_ne _ _ (by omega))).trans h115_1
    have h116_2 : g_2 116 = .inl (cy 1, 12, .inl (fun x9 => nI (OP2_1 x9))) := ((congrFun eg_2 _).trans (va_up_ne _ _ (by omega))).trans h116_1
    have h117_2 : g_2 117 = .inl (cy 1, 12, .inl (fun x9 => nI (OF2_1 x9))) := ((congrFun eg_2 _).trans (va_up_ne _ _ (by omega))).trans h117_1
    have h118_2 : g_2 118 = .inl (cy 1, 12, .inl (fun x9 => nI (OH2_1 x9))) := ((congrFun eg_2 _).trans (va_up_ne _ _ (by omega))).trans h118_1
    have h119_2 : g_2 119 = .inl (cy 2, 12, .inr (.inl OO2_1)) := ((congrFun eg_2 _).trans (va_up_ne _ _ (by omega))).trans h119_1
    have h122_2 : g_2 122 = .inl (cy 1, 8, .inl (fun x9 => nI (BY x9))) := ((congrFun eg_2 _).trans (va_up_ne _ _ (by omega))).trans h122_1
    have h123_2 : g_2 123 = .inl (cy 1, 1600, .inl (fun x9 => nI (BS x9))) := ((congrFun eg_2 _).trans (va_up_ne _ _ (by omega))).trans h123_1
    have h124_2 : g_2 124 = .inl (cy 1, 1600, .inl (fun x9 => nI (BN x9))) := ((congrFun eg_2 _).trans (va_up_ne _ _ (by omega))).trans h124_1
    have hfr_2 : ∀ j : Nat, j ≠ 114 → j ≠ 115 → j ≠ 116 → j ≠ 117 → j ≠ 118 → j ≠ 119 → g_2 j = g j := fun j n0 n1 n2 n3 n4 n5 => ((congrFun eg_2 _).trans (va_up_ne _ _ n0)).trans (hfr_1 j n0 n1 n2 n3 n4 n5)
    refine lv_iload_n hx hb dX10_back_25 rfl (lv_at hl 0 rfl) ?_
    exact rMi S hr hlk hP hS ⟨_, _, _, _, _, _, (by simp only [if_pos hJ, nI_clamp hf031]), (by simp only [if_pos hJ, nI_clamp hf031]; exact hP2_1), (by simp only [if_pos hJ, nI_clamp hf031]; exact hUR2_1), (by simp only [if_pos hJ, nI_clamp hf031]; exact h114_2), h115_2, h116_2, h117_2, h118_2, h119_2, hfr_2⟩ dX10_back_26
  · skip
    have c_5 := bz_eq.mp c_5
    have hJ : ¬ isI x0 fi := c_5
    refine lv_iconst (v := (-1)) hx hb dX10_back_8 (by decide) ?_
    exact rMi S hr hlk hP hS ⟨_, _, _, _, _, _, (if_neg hJ).symm, (by simp only [if_neg hJ]; exact hPw), (by simp only [if_neg hJ]; exact hUR), (by simp only [if_neg hJ]; exact hM), hP9, hO1, hO2, hO3, hO4, (fun j n0 n1 n2 n3 n4 n5 => hfr j )⟩ dX10_back_9
set_option maxHeartbeats 4000000 in
set_option maxRecDepth 100000 in
theorem c_X10_why (l : Launch) (D : va_G) (cy : Nat → ClassId) (ad : Nat → Nat) (N : Nat) (g : Nat → va_E) (hN : 145 ≤ N) (n : Nat) (fa : Nat) (he : Nat) (ov : Nat) (un : Nat) (la : Int32) (bo : Int32) (tp : Nat) (ft : Int32) (wr0 : Nat) (wa : Nat) (at0 : Nat) (sp : Nat) (tk : Nat) (vl : Int32) (fi : Nat) (nm : Nat) (dp : Nat) (wy : Int32) (st : Int32) (aP : Nat) (aF : Nat) (aH : Nat) (aO : Nat) (ps : Nat) (mn : Nat) (go : Int32) (vi : Nat) (hM : g 114 = mob ad (nI (n)) (nI (fa)) (nI (he)) (lN ov) (nI (un)) la bo (nI (tp)) ft (nI (wr0)) (nI (wa)) (nI (at0)) (nI (sp)) (nI (tk)) vl (nI (fi)) (nI (nm)) (nI (dp)) wy st (nI (aP)) (nI (aF)) (nI (aH)) (lN aO) (nI (ps)) (nI (mn)) go (nI (vi))) : Met l yX10_why (WS yX10_why cX10_why 1 (some .int)) (rmF 0 0) (PP [.ref (ad 114)] D cy ad N g) (vp_Si (fun r => r = wy)) 0 0 (fun _ => False) := by
  refine mentry (by decide) (Nat.le_of_ble_eq_true rfl) (fun p e s m below meth c ls S hr hlk hnm hP hK hl => ?_)
  have S : CallFix p m c cX10_why 1 s _ wsL_law RX10 := S
  have hx := S.1
  have hb := S.2.1
  have hl : lv_has ls 1 [(0, .ref (ad 114))] := hl
  refine lv_aload_n hx hb dX10_why_0 rfl (lv_at hl 0 rfl) ?_
  refine mg S hK hP (by omega) hM fd_X10_300 rfl dX10_why_1 ?_
  exact rSi S hr hlk rfl dX10_why_4
set_option maxHeartbeats 4000000 in
set_option maxRecDepth 100000 in
theorem c_X10_fault (l : Launch) (D : va_G) (cy : Nat → ClassId) (ad : Nat → Nat) (N : Nat) (g : Nat → va_E) (hN : 145 ≤ N) (n : Nat) (fa : Nat) (he : Nat) (ov : Nat) (un : Nat) (la : Int32) (bo : Int32) (tp : Nat) (ft : Int32) (wr0 : Nat) (wa : Nat) (at0 : Nat) (sp : Nat) (tk : Nat) (vl : Int32) (fi : Nat) (nm : Nat) (dp : Nat) (wy : Int32) (st : Int32) (aP : Nat) (aF : Nat) (aH : Nat) (aO : Nat) (ps : Nat) (mn : Nat) (go : Int32) (vi : Nat) (hM : g 114 = mob ad (nI (n)) (nI (fa)) (nI (he)) (lN ov) (nI (un)) la bo (nI (tp)) ft (nI (wr0)) (nI (wa)) (nI (at0)) (nI (sp)) (nI (tk)) vl (nI (fi)) (nI (nm)) (nI (dp)) wy st (nI (aP)) (nI (aF)) (nI (aH)) (lN aO) (nI (ps)) (nI (mn)) go (nI (vi))) : Met l yX10_fault (WS yX10_fault cX10_fault 1 (some .int)) (rmF 0 0) (PP [.ref (ad 114)] D cy ad N g) (vp_Si (fun r => r = ft)) 0 0 (fun _ => False) := by
  refine mentry (by decide) (Nat.le_of_ble_eq_true rfl) (fun p e s m below meth c ls S hr hlk hnm hP hK hl => ?_)
  have S : CallFix p m c cX10_fault 1 s _ wsL_law RX10 := S
  have hx := S.1
  have hb := S.2.1
  have hl : lv_has ls 1 [(0, .ref (ad 114))] := hl
  refine lv_aload_n hx hb dX10_fault_0 rfl (lv_at hl 0 rfl) ?_
  refine mg S hK hP (by omega) hM fd_X10_283 rfl dX10_fault_1 ?_
  exact rSi S hr hlk rfl dX10_fault_4
set_option maxHeartbeats 4000000 in
set_option maxRecDepth 100000 in
theorem c_X10_putAside (l : Launch) (D : va_G) (cy : Nat → ClassId) (ad : Nat → Nat) (N : Nat) (g : Nat → va_E) (hinj : ∀ i j : Nat, i < N → j < N → ad i = ad j → i = j) (hN : 145 ≤ N) (n : Nat) (fa : Nat) (he : Nat) (ov : Nat) (un : Nat) (la : Int32) (bo : Int32) (tp : Nat) (ft : Int32) (wr0 : Nat) (wa : Nat) (at0 : Nat) (sp : Nat) (tk : Nat) (vl : Int32) (fi : Nat) (nm : Nat) (dp : Nat) (wy : Int32) (st : Int32) (aP : Nat) (aF : Nat) (aH : Nat) (aO : Nat) (ps : Nat) (mn : Nat) (go : Int32) (vi : Nat) (hM : g 114 = mob ad (nI (n)) (nI (fa)) (nI (he)) (lN ov) (nI (un)) la bo (nI (tp)) ft (nI (wr0)) (nI (wa)) (nI (at0)) (nI (sp)) (nI (tk)) vl (nI (fi)) (nI (nm)) (nI (dp)) wy st (nI (aP)) (nI (aF)) (nI (aH)) (lN aO) (nI (ps)) (nI (mn)) go (nI (vi))) (hn4 : 4 ≤ n) (hn8 : n ≤ 8) (P : Nat → Nat) (hP9 : g 115 = .inl (cy 1, 8, .inl (fun x9 => nI (P x9)))) : Met l yX10_putAside (WS yX10_putAside cX10_putAside 1 none) (rmF 1 22) (PP [.ref (ad 114)] D cy ad N g) (QV (fun g1 => g1 114 = mob ad (nI (n)) (nI (fa)) (nI (he)) (lN ov) (nI (un)) la bo (nI (tp)) ft (nI (wr0)) (nI (wa)) (nI (at0)) (nI (sp)) (nI (tk)) vl (nI (fi)) (nI (nm)) (nI (dp)) wy st (nI (pk P n)) (nI (fa)) (nI (he)) (lN ov) (nI (ps)) (nI (mn)) go (nI (vi)) ∧ (∀ j, j ≠ 114 → g1 j = g j)) D ad N) 0 0 (AA ad N) := by
  refine mentry (by decide) (Nat.le_of_ble_eq_true rfl) (fun p e s m below meth c ls S hr hlk hnm hP hK hl => ?_)
  have S : CallFix p m c cX10_putAside 1 s _ wsL_law RX10 := S
  have hx := S.1
  have hb := S.2.1
  have hl : lv_has ls 1 [(0, .ref (ad 114))] := hl
  have hI : MD (AA ad N) ad N := MD.in hinj
  have hS : va_S (AA ad N) s.heap s.heap [] := va_S.rf
  have hfr : ∀ j : Nat, g j = g j := fun _ => rfl
  refine lv_aload_n hx hb dX10_putAside_0 rfl (lv_at hl 0 rfl) ?_
  refine lv_aload_n hx hb dX10_putAside_1 rfl (lv_at hl 0 rfl) ?_
  refine kVi (As := []) (rest := [.ref (ad 114)]) S hK hP (c_X10_packed l D cy ad N g (by omega) n fa he ov un la bo tp ft wr0 wa at0 sp tk vl fi nm dp wy st aP aF aH aO ps mn go vi hM hn4 hn8 P hP9) cv_X10_153 (by omega) hM ⟨_, _, rfl⟩ ⟨rfl, rfl⟩ rfl hl.1 rfl (Nat.le_of_ble_eq_true rfl) ⟨Nat.zero_le _, Nat.zero_le _⟩ dX10_putAside_2 (fun r_2 q_2 => ?_)
  subst q_2
  refine mp S hK hP hI hS (by omega) hM fd_X10_306 rfl rfl (Nat.le_of_ble_eq_true rfl) dX10_putAside_5 (fun g_1 H locs eg_1 hP hS => ?_)
  have h114_1 : g_1 114 = mob ad (nI (n)) (nI (fa)) (nI (he)) (lN ov) (nI (un)) la bo (nI (tp)) ft (nI (wr0)) (nI (wa)) (nI (at0)) (nI (sp)) (nI (tk)) vl (nI (fi)) (nI (nm)) (nI (dp)) wy st (nI (pk P n)) (nI (aF)) (nI (aH)) (lN aO) (nI (ps)) (nI (mn)) go (nI (vi)) := by rw [eg_1, va_up_self]; exact rfl
  have h115_1 : g_1 115 = .inl (cy 1, 8, .inl (fun x9 => nI (P x9))) := ((congrFun eg_1 _).trans (va_up_ne _ _ (by omega))).trans hP9
  have hfr_1 : ∀ j : Nat, j ≠ 114 → g_1 j = g j := fun j n0 => ((congrFun eg_1 _).trans (va_up_ne _ _ n0)).trans (hfr j )
  refine lv_aload_n hx hb dX10_putAside_8 rfl (lv_at hl 0 rfl) ?_
  refine lv_aload_n hx hb dX10_putAside_9 rfl (lv_at hl 0 rfl) ?_
  refine mg S hK hP (by omega) h114_1 fd_X10_17 rfl dX10_putAside_10 ?_
  refine mp S hK hP hI hS (by omega) h114_1 fd_X10_309 rfl rfl (Nat.le_of_ble_eq_true rfl) dX10_putAside_13 (fun g_2 H locs eg_2 hP hS => ?_)
  have h114_2 : g_2 114 = mob ad (nI (n)) (nI (fa)) (nI (he)) (lN ov) (nI (un)) la bo (nI (tp)) ft (nI (wr0)) (nI (wa)) (nI (at0)) (nI (sp)) (nI (tk)) vl (nI (fi)) (nI (nm)) (nI (dp)) wy st (nI (pk P n)) (nI (fa)) (nI (aH)) (lN aO) (nI (ps)) (nI (mn)) go (nI (vi)) := by rw [eg_2, va_up_self]; exact rfl
  have h115_2 : g_2 115 = .inl (cy 1, 8, .inl (fun x9 => nI (P x9))) := ((congrFun eg_2 _).trans (va_up_ne _ _ (by omega))).trans h115_1
  have hfr_2 : ∀ j : Nat, j ≠ 114 → g_2 j = g j := fun j n0 => ((congrFun eg_2 _).trans (va_up_ne _ _ n0)).trans (hfr_1 j n0)
  refine lv_aload_n hx hb dX10_putAside_16 rfl (lv_at hl 0 rfl) ?_
  refine lv_aload_n hx hb dX10_putAside_17 rfl (lv_at hl 0 rfl) ?_
  refine mg S hK hP (by omega) h114_2 fd_X10_20 rfl dX10_putAside_18 ?_
  refine mp S hK hP hI hS (by omega) h114_2 fd_X10_312 rfl rfl (Nat.le_of_ble_eq_true rfl) dX10_putAside_21 (fun g_3 H locs eg_3 hP hS => ?_)
  have h114_3 : g_3 114 = mob ad (nI (n)) (nI (fa)) (nI (he)) (lN ov) (nI (un)) la bo (nI (tp)) ft (nI (wr0)) (nI (wa)) (nI (at0)) (nI (sp)) (nI (tk)) vl (nI (fi)) (nI (nm)) (nI (dp)) wy st (nI (pk P n)) (nI (fa)) (nI (he)) (lN aO) (nI (ps)) (nI (mn)) go (nI (vi)) := by rw [eg_3, va_up_self]; exact rfl
  have h115_3 : g_3 115 = .inl (cy 1, 8, .inl (fun x9 => nI (P x9))) := ((congrFun eg_3 _).trans (va_up_ne _ _ (by omega))).trans h115_2
  have hfr_3 : ∀ j : Nat, j ≠ 114 → g_3 j = g j := fun j n0 => ((congrFun eg_3 _).trans (va_up_ne _ _ n0)).trans (hfr_2 j n0)
  refine lv_aload_n hx hb dX10_putAside_24 rfl (lv_at hl 0 rfl) ?_
  refine lv_aload_n hx hb dX10_putAside_25 rfl (lv_at hl 0 rfl) ?_
  refine mg S hK hP (by omega) h114_3 fd_X10_119 rfl dX10_putAside_26 ?_
  refine mp S hK hP hI hS (by omega) h114_3 fd_X10_315 rfl rfl (Nat.le_of_ble_eq_true rfl) dX10_putAside_29 (fun g_4 H locs eg_4 hP hS => ?_)
  have h114_4 : g_4 114 = mob ad (nI (n)) (nI (fa)) (nI (he)) (lN ov) (nI (un)) la bo (nI (tp)) ft (nI (wr0)) (nI (wa)) (nI (at0)) (nI (sp)) (nI (tk)) vl (nI (fi)) (nI (nm)) (nI (dp)) wy st (nI (pk P n)) (nI (fa)) (nI (he)) (lN ov) (nI (ps)) (nI (mn)) go (nI (vi)) := by rw [eg_4, va_up_self]; exact rfl
  have h115_4 : g_4 115 = .inl (cy 1, 8, .inl (fun x9 => nI (P x9))) := ((congrFun eg_4 _).trans (va_up_ne _ _ (by omega))).trans h115_3
  have hfr_4 : ∀ j : Nat, j ≠ 114 → g_4 j = g j := fun j n0 => ((congrFun eg_4 _).trans (va_up_ne _ _ n0)).trans (hfr_3 j n0)
  exact rMv S hr hlk hP hS ⟨h114_4, hfr_4⟩ dX10_putAside_32
set_option maxHeartbeats 4000000 in
set_option maxRecDepth 100000 in
theorem c_X10_bringBack (l : Launch) (D : va_G) (cy : Nat → ClassId) (ad : Nat → Nat) (N : Nat) (g : Nat → va_E) (hinj : ∀ i j : Nat, i < N → j < N → ad i = ad j → i = j) (hN : 145 ≤ N) (n : Nat) (fa : Nat) (he : Nat) (ov : Nat) (un : Nat) (la : Int32) (bo : Int32) (tp : Nat) (ft : Int32) (wr0 : Nat) (wa : Nat) (at0 : Nat) (sp : Nat) (tk : Nat) (vl : Int32) (fi : Nat) (nm : Nat) (dp : Nat) (wy : Int32) (st : Int32) (aP : Nat) (aF : Nat) (aH : Nat) (aO : Nat) (ps : Nat) (mn : Nat) (go : Int32) (vi : Nat) (hM : g 114 = mob ad (nI (n)) (nI (fa)) (nI (he)) (lN ov) (nI (un)) la bo (nI (tp)) ft (nI (wr0)) (nI (wa)) (nI (at0)) (nI (sp)) (nI (tk)) vl (nI (fi)) (nI (nm)) (nI (dp)) wy st (nI (aP)) (nI (aF)) (nI (aH)) (lN aO) (nI (ps)) (nI (mn)) go (nI (vi))) (hn4 : 4 ≤ n) (hn8 : n ≤ 8) (P : Nat → Nat) (hP9 : g 115 = .inl (cy 1, 8, .inl (fun x9 => nI (P x9)))) (haP : aP < 2 ^ 24) : Met l yX10_bringBack (WS yX10_bringBack cX10_bringBack 1 none) (rmF 1 22) (PP [.ref (ad 114)] D cy ad N g) (QV (fun g1 => g1 114 = mob ad (nI (n)) (nI (aF)) (nI (aH)) (lN aO) (nI (un)) la bo (nI (tp)) ft (nI (wr0)) (nI (wa)) (nI (at0)) (nI (sp)) (nI (tk)) vl (nI (fi)) (nI (nm)) (nI (dp)) wy st (nI (aP)) (nI (aF)) (nI (aH)) (lN aO) (nI (ps)) (nI (mn)) go (nI (vi)) ∧ g1 115 = .inl (cy 1, 8, .inl (fun x9 => nI ((upk aP P n) x9))) ∧ (∀ j, j ≠ 114 → j ≠ 115 → g1 j = g j)) D ad N) 0 0 (AA ad N) := by
  refine mentry (by decide) (Nat.le_of_ble_eq_true rfl) (fun p e s m below meth c ls S hr hlk hnm hP hK hl => ?_)
  have S : CallFix p m c cX10_bringBack 1 s _ wsL_law RX10 := S
  have hx := S.1
  have hb := S.2.1
  have hl : lv_has ls 1 [(0, .ref (ad 114))] := hl
  have hI : MD (AA ad N) ad N := MD.in hinj
  have hS : va_S (AA ad N) s.heap s.heap [] := va_S.rf
  have hfr : ∀ j : Nat, g j = g j := fun _ => rfl
  refine lv_aload_n hx hb dX10_bringBack_0 rfl (lv_at hl 0 rfl) ?_
  refine lv_aload_n hx hb dX10_bringBack_1 rfl (lv_at hl 0 rfl) ?_
  refine mg S hK hP (by omega) hM fd_X10_306 rfl dX10_bringBack_2 ?_
  refine kMv (As := [.int (nI (aP))]) (rest := []) S hK hP hS (fun _ h => h) (c_X10_unpack l D cy ad N g hinj (by omega) n fa he ov un la bo tp ft wr0 wa at0 sp tk vl fi nm dp wy st aP aF aH aO ps mn go vi hM hn4 hn8 P hP9 aP haP) cv_X10_180 (by omega) hM ⟨_, _, rfl⟩ ⟨rfl, rfl⟩ rfl hl.1 rfl (Nat.le_of_ble_eq_true rfl) ⟨Nat.zero_le _, Nat.zero_le _⟩ dX10_bringBack_5 (fun g_1 H locs q_1 hP hS => ?_)
  obtain ⟨h115_1, f_1⟩ := q_1
  have h114_1 : g_1 114 = mob ad (nI (n)) (nI (fa)) (nI (he)) (lN ov) (nI (un)) la bo (nI (tp)) ft (nI (wr0)) (nI (wa)) (nI (at0)) (nI (sp)) (nI (tk)) vl (nI (fi)) (nI (nm)) (nI (dp)) wy st (nI (aP)) (nI (aF)) (nI (aH)) (lN aO) (nI (ps)) (nI (mn)) go (nI (vi)) := (f_1 114 (by omega)).trans hM
  have hfr_1 : ∀ j : Nat, j ≠ 115 → g_1 j = g j := fun j n0 => (f_1 j n0).trans (hfr j )
  refine lv_aload_n hx hb dX10_bringBack_8 rfl (lv_at hl 0 rfl) ?_
  refine lv_aload_n hx hb dX10_bringBack_9 rfl (lv_at hl 0 rfl) ?_
  refine mg S hK hP (by omega) h114_1 fd_X10_309 rfl dX10_bringBack_10 ?_
  refine mp S hK hP hI hS (by omega) h114_1 fd_X10_17 rfl rfl (Nat.le_of_ble_eq_true rfl) dX10_bringBack_13 (fun g_2 H locs eg_2 hP hS => ?_)
  have h114_2 : g_2 114 = mob ad (nI (n)) (nI (aF)) (nI (he)) (lN ov) (nI (un)) la bo (nI (tp)) ft (nI (wr0)) (nI (wa)) (nI (at0)) (nI (sp)) (nI (tk)) vl (nI (fi)) (nI (nm)) (nI (dp)) wy st (nI (aP)) (nI (aF)) (nI (aH)) (lN aO) (nI (ps)) (nI (mn)) go (nI (vi)) := by rw [eg_2, va_up_self]; exact rfl
  have h115_2 : g_2 115 = .inl (cy 1, 8, .inl (fun x9 => nI ((upk aP P n) x9))) := ((congrFun eg_2 _).trans (va_up_ne _ _ (by omega))).trans h115_1
  have hfr_2 : ∀ j : Nat, j ≠ 115 → j ≠ 114 → g_2 j = g j := fun j n0 n1 => ((congrFun eg_2 _).trans (va_up_ne _ _ n1)).trans (hfr_1 j n0)
  refine lv_aload_n hx hb dX10_bringBack_16 rfl (lv_at hl 0 rfl) ?_
  refine lv_aload_n hx hb dX10_bringBack_17 rfl (lv_at hl 0 rfl) ?_
  refine mg S hK hP (by omega) h114_2 fd_X10_312 rfl dX10_bringBack_18 ?_
  refine mp S hK hP hI hS (by omega) h114_2 fd_X10_20 rfl rfl (Nat.le_of_ble_eq_true rfl) dX10_bringBack_21 (fun g_3 H locs eg_3 hP hS => ?_)
  have h114_3 : g_3 114 = mob ad (nI (n)) (nI (aF)) (nI (aH)) (lN ov) (nI (un)) la bo (nI (tp)) ft (nI (wr0)) (nI (wa)) (nI (at0)) (nI (sp)) (nI (tk)) vl (nI (fi)) (nI (nm)) (nI (dp)) wy st (nI (aP)) (nI (aF)) (nI (aH)) (lN aO) (nI (ps)) (nI (mn)) go (nI (vi)) := by rw [eg_3, va_up_self]; exact rfl
  have h115_3 : g_3 115 = .inl (cy 1, 8, .inl (fun x9 => nI ((upk aP P n) x9))) := ((congrFun eg_3 _).trans (va_up_ne _ _ (by omega))).trans h115_2
  have hfr_3 : ∀ j : Nat, j ≠ 115 → j ≠ 114 → g_3 j = g j := fun j n0 n1 => ((congrFun eg_3 _).trans (va_up_ne _ _ n1)).trans (hfr_2 j n0 n1)
  refine lv_aload_n hx hb dX10_bringBack_24 rfl (lv_at hl 0 rfl) ?_
  refine lv_aload_n hx hb dX10_bringBack_25 rfl (lv_at hl 0 rfl) ?_
  refine mg S hK hP (by omega) h114_3 fd_X10_315 rfl dX10_bringBack_26 ?_
  refine mp S hK hP hI hS (by omega) h114_3 fd_X10_119 rfl rfl (Nat.le_of_ble_eq_true rfl) dX10_bringBack_29 (fun g_4 H locs eg_4 hP hS => ?_)
  have h114_4 : g_4 114 = mob ad (nI (n)) (nI (aF)) (nI (aH)) (lN aO) (nI (un)) la bo (nI (tp)) ft (nI (wr0)) (nI (wa)) (nI (at0)) (nI (sp)) (nI (tk)) vl (nI (fi)) (nI (nm)) (nI (dp)) wy st (nI (aP)) (nI (aF)) (nI (aH)) (lN aO) (nI (ps)) (nI (mn)) go (nI (vi)) := by rw [eg_4, va_up_self]; exact rfl
  have h115_4 : g_4 115 = .inl (cy 1, 8, .inl (fun x9 => nI ((upk aP P n) x9))) := ((congrFun eg_4 _).trans (va_up_ne _ _ (by omega))).trans h115_3
  have hfr_4 : ∀ j : Nat, j ≠ 115 → j ≠ 114 → g_4 j = g j := fun j n0 n1 => ((congrFun eg_4 _).trans (va_up_ne _ _ n1)).trans (hfr_3 j n0 n1)
  exact rMv S hr hlk hP hS ⟨h114_4, h115_4, (fun j n0 n1 => hfr_4 j (by omega) (by omega))⟩ dX10_bringBack_32
set_option maxHeartbeats 4000000 in
set_option maxRecDepth 100000 in
theorem c_X10_isAside (l : Launch) (D : va_G) (cy : Nat → ClassId) (ad : Nat → Nat) (N : Nat) (g : Nat → va_E) (hN : 145 ≤ N) (w : WT) (v : WT) (un : Nat) (la : Int32) (bo : Int32) (tp : Nat) (ft : Int32) (wr0 : Nat) (wa : Nat) (at0 : Nat) (sp : Nat) (tk : Nat) (vl : Int32) (fi : Nat) (nm : Nat) (dp : Nat) (wy : Int32) (st : Int32) (ps : Nat) (mn : Nat) (go : Int32) (vi : Nat) (hM : g 114 = mob ad (nI (wn w)) (nI (wf w)) (nI (wh w)) (lN (wo w)) (nI (un)) la bo (nI (tp)) ft (nI (wr0)) (nI (wa)) (nI (at0)) (nI (sp)) (nI (tk)) vl (nI (fi)) (nI (nm)) (nI (dp)) wy st (nI (pk (wp v) (wn w))) (nI (wf v)) (nI (wh v)) (lN (wo v)) (nI (ps)) (nI (mn)) go (nI (vi))) (P : Nat → Nat) (hP9 : g 115 = .inl (cy 1, 8, .inl (fun x9 => nI (P x9)))) (hw : WOK w) (hPw : ∀ i, i < wn w → P i = wp w i) (hv : WOK v) (hvn : wn v = wn w) : Met l yX10_isAside (WS yX10_isAside cX10_isAside 1 (some .boolean)) (rmF 1 22) (PP [.ref (ad 114)] D cy ad N g) (vp_Si (fun r => r = if asW w v then 1 else 0)) 0 0 (fun _ => False) := by
  refine mentry (by decide) (Nat.le_of_ble_eq_true rfl) (fun p e s m below meth c ls S hr hlk hnm hP hK hl => ?_)
  have S : CallFix p m c cX10_isAside 1 s _ wsL_law RX10 := S
  have hx := S.1
  have hb := S.2.1
  have hl : lv_has ls 1 [(0, .ref (ad 114))] := hl
  have hn4 := hw.1.1
  have hn8 := hw.1.2
  have hpm := perm_P hw hPw
  have hf := lt256 hw.2.2.1 hn8
  have hh := lt256 hw.2.2.2.1 hn8
  have ho := hw.2.2.2.2.1
  have hv8 : wn v ≤ 8 := hv.1.2
  have hf2 := lt256 hv.2.2.1 hv8
  have hh2 := lt256 hv.2.2.2.1 hv8
  have ho2 := hv.2.2.2.2.1
  have hp2 := pk_24 (P := wp v) hn8 (fun i hi => by have := hv.2.1.2.1 i (by omega); omega)
  have hp1 := pk_24 hn8 (P8 hw hPw)
  refine lv_aload_n hx hb dX10_isAside_0 rfl (lv_at hl 0 rfl) ?_
  refine kVi (As := []) (rest := []) S hK hP (c_X10_packed l D cy ad N g (by omega) (wn w) (wf w) (wh w) (wo w) un la bo tp ft wr0 wa at0 sp tk vl fi nm dp wy st (pk (wp v) (wn w)) (wf v) (wh v) (wo v) ps mn go vi hM hn4 hn8 P hP9) cv_X10_153 (by omega) hM ⟨_, _, rfl⟩ ⟨rfl, rfl⟩ rfl hl.1 rfl (Nat.le_of_ble_eq_true rfl) ⟨Nat.zero_le _, Nat.zero_le _⟩ dX10_isAside_1 (fun r_1 q_1 => ?_)
  subst q_1
  refine lv_aload_n hx hb dX10_isAside_4 rfl (lv_at hl 0 rfl) ?_
  refine mg S hK hP (by omega) hM fd_X10_306 rfl dX10_isAside_5 ?_
  refine lv_icmp_ne (tgt := 49) hx hb dX10_isAside_8 (by decide) (fun c_8 => ?_) (fun c_8 => ?_)
  · skip
    have c_8 := (not_congr (nI_eq (by omega) (by omega))).mp c_8
    refine lv_iconst (v := nI (0)) hx hb dX10_isAside_49 (by decide) ?_
    exact rSz S hr hlk (by first | exact Or.inl rfl | exact Or.inr rfl) (ifF (fun q => by first | exact c_8 ((asW_pk hw hv hvn hPw).mpr q.2.1) | exact c_19 q.2.2.1 | exact c_30 q.2.2.2.1 | exact c_42 q.2.2.2.2)) dX10_isAside_50
  · skip
    have c_8 := (nI_eq (by omega) (by omega)).mp c_8
    refine lv_aload_n hx hb dX10_isAside_11 rfl (lv_at hl 0 rfl) ?_
    refine mg S hK hP (by omega) hM fd_X10_17 rfl dX10_isAside_12 ?_
    refine lv_aload_n hx hb dX10_isAside_15 rfl (lv_at hl 0 rfl) ?_
    refine mg S hK hP (by omega) hM fd_X10_309 rfl dX10_isAside_16 ?_
    refine lv_icmp_ne (tgt := 49) hx hb dX10_isAside_19 (by decide) (fun c_19 => ?_) (fun c_19 => ?_)
    · skip
      have c_19 := (not_congr (nI_eq (by omega) (by omega))).mp c_19
      refine lv_iconst (v := nI (0)) hx hb dX10_isAside_49 (by decide) ?_
      exact rSz S hr hlk (by first | exact Or.inl rfl | exact Or.inr rfl) (ifF (fun q => by first | exact c_8 ((asW_pk hw hv hvn hPw).mpr q.2.1) | exact c_19 q.2.2.1 | exact c_30 q.2.2.2.1 | exact c_42 q.2.2.2.2)) dX10_isAside_50
    · skip
      have c_19 := (nI_eq (by omega) (by omega)).mp c_19
      refine lv_aload_n hx hb dX10_isAside_22 rfl (lv_at hl 0 rfl) ?_
      refine mg S hK hP (by omega) hM fd_X10_20 rfl dX10_isAside_23 ?_
      refine lv_aload_n hx hb dX10_isAside_26 rfl (lv_at hl 0 rfl) ?_
      refine mg S hK hP (by omega) hM fd_X10_312 rfl dX10_isAside_27 ?_
      refine lv_icmp_ne (tgt := 49) hx hb dX10_isAside_30 (by decide) (fun c_30 => ?_) (fun c_30 => ?_)
      · skip
        have c_30 := (not_congr (nI_eq (by omega) (by omega))).mp c_30
        refine lv_iconst (v := nI (0)) hx hb dX10_isAside_49 (by decide) ?_
        exact rSz S hr hlk (by first | exact Or.inl rfl | exact Or.inr rfl) (ifF (fun q => by first | exact c_8 ((asW_pk hw hv hvn hPw).mpr q.2.1) | exact c_19 q.2.2.1 | exact c_30 q.2.2.2.1 | exact c_42 q.2.2.2.2)) dX10_isAside_50
      · skip
        have c_30 := (nI_eq (by omega) (by omega)).mp c_30
        refine lv_aload_n hx hb dX10_isAside_33 rfl (lv_at hl 0 rfl) ?_
        refine mg S hK hP (by omega) hM fd_X10_119 rfl dX10_isAside_34 ?_
        refine lv_aload_n hx hb dX10_isAside_37 rfl (lv_at hl 0 rfl) ?_
        refine mg S hK hP (by omega) hM fd_X10_315 rfl dX10_isAside_38 ?_
        refine W.lcmp hx hb dX10_isAside_41 ?_
        refine lv_if_ne (tgt := 49) hx hb dX10_isAside_42 (by decide) (fun c_42 => ?_) (fun c_42 => ?_)
        · skip
          have c_42 := (not_congr (lgN_eq ho ho2)).mp c_42
          refine lv_iconst (v := nI (0)) hx hb dX10_isAside_49 (by decide) ?_
          exact rSz S hr hlk (by first | exact Or.inl rfl | exact Or.inr rfl) (ifF (fun q => by first | exact c_8 ((asW_pk hw hv hvn hPw).mpr q.2.1) | exact c_19 q.2.2.1 | exact c_30 q.2.2.2.1 | exact c_42 q.2.2.2.2)) dX10_isAside_50
        · skip
          have c_42 := (lgN_eq ho ho2).mp c_42
          refine lv_iconst (v := nI (1)) hx hb dX10_isAside_45 (by decide) ?_
          refine lv_goto (tgt := 50) hx hb dX10_isAside_46 (by decide) ?_
          exact rSz S hr hlk (by first | exact Or.inl rfl | exact Or.inr rfl) (ifT ⟨hvn.symm, (asW_pk hw hv hvn hPw).mp c_8, c_19, c_30, c_42⟩) dX10_isAside_50
set_option maxHeartbeats 4000000 in
set_option maxRecDepth 100000 in
theorem c_X10_order (l : Launch) (D : va_G) (cy : Nat → ClassId) (ad : Nat → Nat) (N : Nat) (g : Nat → va_E) (hinj : ∀ i j : Nat, i < N → j < N → ad i = ad j → i = j) (hN : 145 ≤ N) (F : FS) (un : Nat) (la : Int32) (bo : Int32) (tp : Nat) (ft : Int32) (wr0 : Nat) (wa : Nat) (at0 : Nat) (sp : Nat) (tk : Nat) (vl : Int32) (fi : Nat) (nm : Nat) (dp : Nat) (wy : Int32) (st : Int32) (aP : Nat) (aF : Nat) (aH : Nat) (aO : Nat) (ps : Nat) (mn : Nat) (go : Int32) (vi : Nat) (hM : g 114 = mob ad (nI (wn F.1)) (nI (wf F.1)) (nI (wh F.1)) (lN (wo F.1)) (nI (un)) la bo (nI (tp)) ft (nI (wr0)) (nI (wa)) (nI (at0)) (nI (sp)) (nI (tk)) vl (nI (fi)) (nI (nm)) (nI (dp)) wy st (nI (aP)) (nI (aF)) (nI (aH)) (lN aO) (nI (ps)) (nI (mn)) go (nI (vi))) (P : Nat → Nat) (hP9 : g 115 = .inl (cy 1, 8, .inl (fun x9 => nI (P x9)))) (hF : FOK F) (hPw : ∀ i, i < wn F.1 → P i = wp F.1 i) (BY : Nat → Nat) (hBY : g 122 = .inl (cy 1, 8, .inl (fun x9 => nI (BY x9)))) (BS : Nat → Nat) (hBS : g 123 = .inl (cy 1, 1600, .inl (fun x9 => nI (BS x9)))) (BN : Nat → Nat) (hBN : g 124 = .inl (cy 1, 1600, .inl (fun x9 => nI (BN x9)))) (Fl : Nat → Nat) (FB : Nat → Nat → Nat) (hfi : fi ≤ 8) (hFR : FR fi BY BS BN Fl FB) (x0 : Int32) : Met l yX10_order (WS yX10_order cX10_order 4 (some .int)) (rmF 5 122) (PP [.ref (ad 114), .int x0] D cy ad N g) (QI (fun r g1 => ∃ (P2 : Nat → Nat), ∃ (st2 : Int32), ∃ (aP2 : Nat), ∃ (aF2 : Nat), ∃ (aH2 : Nat), ∃ (aO2 : Nat), (r = if isI x0 fi then orA (FB x0.toNatClampNeg) (Fl x0.toNatClampNeg) F.1 60 F 0 else -1) ∧ (∀ i, i < wn F.1 → P2 i = wp F.1 i) ∧ g1 114 = mob ad (nI (wn F.1)) (nI (wf F.1)) (nI (wh F.1)) (lN (wo F.1)) (nI (un)) la bo (nI (tp)) ft (nI (wr0)) (nI (wa)) (nI (at0)) (nI (sp)) (nI (tk)) vl (nI (fi)) (nI (nm)) (nI (dp)) wy st2 (nI (aP2)) (nI (aF2)) (nI (aH2)) (lN aO2) (nI (ps)) (nI (mn)) go (nI (vi)) ∧ g1 115 = .inl (cy 1, 8, .inl (fun x9 => nI (P2 x9))) ∧ (∀ j, j ≠ 114 → j ≠ 115 → g1 j = g j)) D ad N) 0 0 (AA ad N) := by
  refine mentry (by decide) (Nat.le_of_ble_eq_true rfl) (fun p e s m below meth c ls S hr hlk hnm hP hK hl => ?_)
  have S : CallFix p m c cX10_order 4 s _ wsL_law RX10 := S
  have hx := S.1
  have hb := S.2.1
  have hl : lv_has ls 4 [(0, .ref (ad 114)), (1, .int x0)] := hl
  have hI : MD (AA ad N) ad N := MD.in hinj
  have hS : va_S (AA ad N) s.heap s.heap [] := va_S.rf
  have hfr : ∀ j : Nat, g j = g j := fun _ => rfl
  have hw := hF.1
  have hn4 := hw.1.1
  have hn8 := hw.1.2
  have hp8 : ∀ i, i < wn F.1 → wp F.1 i < 8 := fun i hi => by have := hw.2.1.2.1 i hi; omega
  have hpk := pk_24 hn8 hp8
  refine lv_aload_n hx hb dX10_order_0 rfl (lv_at hl 0 rfl) ?_
  refine lv_iload_n hx hb dX10_order_1 rfl (lv_at hl 1 rfl) ?_
  refine kVi (As := [.int x0]) (rest := []) S hK hP (c_X10_isFigure l D cy ad N g (by omega) (wn F.1) (wf F.1) (wh F.1) (wo F.1) un la bo tp ft wr0 wa at0 sp tk vl fi nm dp wy st aP aF aH aO ps mn go vi hM hfi x0) cv_X10_286 (by omega) hM ⟨_, _, rfl⟩ ⟨rfl, rfl⟩ rfl hl.1 rfl (Nat.le_of_ble_eq_true rfl) ⟨Nat.zero_le _, Nat.zero_le _⟩ dX10_order_2 (fun r_2 q_2 => ?_)
  subst q_2
  refine lv_if_ne (tgt := 10) hx hb dX10_order_5 (by decide) (fun c_5 => ?_) (fun c_5 => ?_)
  · skip
    have c_5 := bz_ne.mp c_5
    obtain ⟨f0, hf0b, rfl⟩ := isI_nat (by omega) c_5
    have hJ := c_5
    have hf031 : f0 < 2 ^ 31 := by omega
    refine lv_aload_n hx hb dX10_order_10 rfl (lv_at hl 0 rfl) ?_
    refine kMv (As := []) (rest := []) S hK hP hS (fun _ h => h) (c_X10_putAside l D cy ad N g hinj (by omega) (wn F.1) (wf F.1) (wh F.1) (wo F.1) un la bo tp ft wr0 wa at0 sp tk vl fi nm dp wy st aP aF aH aO ps mn go vi hM hn4 hn8 P hP9) cv_X10_318 (by omega) hM ⟨_, _, rfl⟩ ⟨rfl, rfl⟩ rfl hl.1 rfl (Nat.le_of_ble_eq_true rfl) ⟨Nat.zero_le _, Nat.zero_le _⟩ dX10_order_11 (fun g_1 H locs q_1 hP hS => ?_)
    obtain ⟨h114_1, f_1⟩ := q_1
    have h115_1 : g_1 115 = .inl (cy 1, 8, .inl (fun x9 => nI (P x9))) := (f_1 115 (by omega)).trans hP9
    have h122_1 : g_1 122 = .inl (cy 1, 8, .inl (fun x9 => nI (BY x9))) := (f_1 122 (by omega)).trans hBY
    have h123_1 : g_1 123 = .inl (cy 1, 1600, .inl (fun x9 => nI (BS x9))) := (f_1 123 (by omega)).trans hBS
    have h124_1 : g_1 124 = .inl (cy 1, 1600, .inl (fun x9 => nI (BN x9))) := (f_1 124 (by omega)).trans hBN
    have hfr_1 : ∀ j : Nat, j ≠ 114 → g_1 j = g j := fun j n0 => (f_1 j n0).trans (hfr j )
    refine lv_bipush (v := (-4)) hx hb dX10_order_14 (by decide) ?_
    refine lv_istore_n (lv' := [(2, .int (-4)), (0, .ref (ad 114)), (1, .int (nI (f0)))]) hx hb dX10_order_16 rfl hl (by decide) rfl (fun ls hl => ?_)
    refine lv_iconst (v := nI (1)) hx hb dX10_order_17 (by decide) ?_
    refine lv_istore_n (lv' := [(3, .int (nI (1))), (2, .int (-4)), (0, .ref (ad 114)), (1, .int (nI (f0)))]) hx hb dX10_order_18 rfl hl (by decide) rfl (fun ls hl => ?_)
    have L19 : ∀ (fu : Nat) (k9 : Nat) (fo s3 : Int32) (F3 : FS) (P3 : Nat → Nat), (k9 ≤ 60) → (FOK F3) → (∀ j, j < wn F3.1 → P3 j = wp F3.1 j) → (wn F3.1 = wn F.1) → ((fo = -4 ∧ orA (FB f0) (Fl f0) F.1 (60 - k9) F3 k9 = orA (FB f0) (Fl f0) F.1 60 F 0) ∨ (¬ fo = -4 ∧ fo = orA (FB f0) (Fl f0) F.1 60 F 0)) → (60 - k9) < fu → ∀ (g_2 : Nat → va_E) (H : Heap) (locs : List Loc), g_2 114 = mob ad (nI (wn F3.1)) (nI (wf F3.1)) (nI (wh F3.1)) (lN (wo F3.1)) (nI (un)) la bo (nI (tp)) ft (nI (wr0)) (nI (wa)) (nI (at0)) (nI (sp)) (nI (tk)) vl (nI (fi)) (nI (nm)) (nI (dp)) wy s3 (nI (pk (wp F.1) (wn F.1))) (nI (wf F.1)) (nI (wh F.1)) (lN (wo F.1)) (nI (ps)) (nI (mn)) go (nI (vi)) → g_2 115 = .inl (cy 1, 8, .inl (fun x9 => nI (P3 x9))) → (∀ j : Nat, j ≠ 114 → j ≠ 115 → g_2 j = g j) → MM D ad N g_2 H → va_S (AA ad N) s.heap H locs → ∀ (ls : Array Slot), lv_has ls 4 [(3, .int (nI (k9 + 1))), (2, .int fo), (0, .ref (ad 114)), (1, .int (nI (f0)))] → W p l e (rmF 5 122) s m [.ref (ad 114), .int (nI f0)].toArray below meth c H locs 0 0 (MQ below (QI (fun r g1 => ∃ (P2 : Nat → Nat), ∃ (st2 : Int32), ∃ (aP2 : Nat), ∃ (aF2 : Nat), ∃ (aH2 : Nat), ∃ (aO2 : Nat), (r = if isI (nI f0) fi then orA (FB (nI f0).toNatClampNeg) (Fl (nI f0).toNatClampNeg) F.1 60 F 0 else -1) ∧ (∀ i, i < wn F.1 → P2 i = wp F.1 i) ∧ g1 114 = mob ad (nI (wn F.1)) (nI (wf F.1)) (nI (wh F.1)) (lN (wo F.1)) (nI (un)) la bo (nI (tp)) ft (nI (wr0)) (nI (wa)) (nI (at0)) (nI (sp)) (nI (tk)) vl (nI (fi)) (nI (nm)) (nI (dp)) wy st2 (nI (aP2)) (nI (aF2)) (nI (aH2)) (lN aO2) (nI (ps)) (nI (mn)) go (nI (vi)) ∧ g1 115 = .inl (cy 1, 8, .inl (fun x9 => nI (P2 x9))) ∧ (∀ j, j ≠ 114 → j ≠ 115 → g1 j = g j)) D ad N) [.ref (ad 114), .int (nI f0)].toArray s 0 0 (AA ad N)) (F0 m 19 ls []) := by
      intro fu
      induction fu with
      | zero => intro k9 fo s3 F3 P3 hk9 hF3 hP3 hn3 hor hms g_2 H locs h114_2 h115_2 hfr_2 hP hS ls hl; exact absurd hms (Nat.not_lt_zero _)
      | succ fu ih19 =>
        intro k9 fo s3 F3 P3 hk9 hF3 hP3 hn3 hor hms g_2 H locs h114_2 h115_2 hfr_2 hP hS ls hl
        have h122_2 : g_2 122 = .inl (cy 1, 8, .inl (fun x9 => nI (BY x9))) := (hfr_2 122 (by omega) (by omega)).trans hBY
        have h123_2 : g_2 123 = .inl (cy 1, 1600, .inl (fun x9 => nI (BS x9))) := (hfr_2 123 (by omega) (by omega)).trans hBS
        have h124_2 : g_2 124 = .inl (cy 1, 1600, .inl (fun x9 => nI (BN x9))) := (hfr_2 124 (by omega) (by omega)).trans hBN
        refine lv_iload_n hx hb dX10_order_19 rfl (lv_at hl 0 rfl) ?_
        refine lv_bipush (v := nI (60)) hx hb dX10_order_20 (by decide) ?_
        refine lv_icmp_gt (tgt := 65) hx hb dX10_order_22 (by decide) (fun c_22 => ?_) (fun c_22 => ?_)
        · skip
          have c_22 := (nI_ltI (by omega) (by omega)).mp c_22
          refine lv_aload_n hx hb dX10_order_65 rfl (lv_at hl 2 rfl) ?_
          refine kMv (As := []) (rest := []) S hK hP hS (fun _ h => h) (c_X10_bringBack l D cy ad N g_2 hinj (by omega) (wn F3.1) (wf F3.1) (wh F3.1) (wo F3.1) un la bo tp ft wr0 wa at0 sp tk vl fi nm dp wy s3 (pk (wp F.1) (wn F.1)) (wf F.1) (wh F.1) (wo F.1) ps mn go vi h114_2 (by omega) (by omega) P3 h115_2 hpk) cv_X10_324 (by omega) h114_2 ⟨_, _, rfl⟩ ⟨rfl, rfl⟩ rfl hl.1 rfl (Nat.le_of_ble_eq_true rfl) ⟨Nat.zero_le _, Nat.zero_le _⟩ dX10_order_66 (fun g_3 H locs q_3 hP hS => ?_)
          obtain ⟨h114_3, h115_3, f_3⟩ := q_3
          have h122_3 : g_3 122 = .inl (cy 1, 8, .inl (fun x9 => nI (BY x9))) := (f_3 122 (by omega) (by omega)).trans h122_2
          have h123_3 : g_3 123 = .inl (cy 1, 1600, .inl (fun x9 => nI (BS x9))) := (f_3 123 (by omega) (by omega)).trans h123_2
          have h124_3 : g_3 124 = .inl (cy 1, 1600, .inl (fun x9 => nI (BN x9))) := (f_3 124 (by omega) (by omega)).trans h124_2
          have hfr_3 : ∀ j : Nat, j ≠ 114 → j ≠ 115 → g_3 j = g j := fun j n0 n1 => (f_3 j n0 n1).trans (hfr_2 j n0 n1)
          refine lv_iload_n hx hb dX10_order_69 rfl (lv_at hl 1 rfl) ?_
          exact rMi S hr hlk hP hS ⟨_, s3, pk (wp F.1) (wn F.1), wf F.1, wh F.1, wo F.1, (by simp only [if_pos hJ, nI_clamp hf031]; first | exact (hor.elim (fun q => by rw [q.1, ← q.2, show k9 = 60 by omega]; rfl) (fun q => q.2)) | exact (hor.elim (fun q => absurd q.1 c_28) (fun q => q.2))), (by rw [hn3]; intro i hi; rw [upk_at hi]; exact pk_nib hp8 hi), (by have q := h114_3; rw [hn3] at q; exact q), h115_3, hfr_3⟩ dX10_order_70
        · skip
          have c_22 := (not_congr (nI_ltI (by omega) (by omega))).mp c_22
          refine lv_iload_n hx hb dX10_order_25 rfl (lv_at hl 1 rfl) ?_
          refine lv_bipush (v := (-4)) hx hb dX10_order_26 (by decide) ?_
          refine lv_icmp_ne (tgt := 65) hx hb dX10_order_28 (by decide) (fun c_28 => ?_) (fun c_28 => ?_)
          · skip
            refine lv_aload_n hx hb dX10_order_65 rfl (lv_at hl 2 rfl) ?_
            refine kMv (As := []) (rest := []) S hK hP hS (fun _ h => h) (c_X10_bringBack l D cy ad N g_2 hinj (by omega) (wn F3.1) (wf F3.1) (wh F3.1) (wo F3.1) un la bo tp ft wr0 wa at0 sp tk vl fi nm dp wy s3 (pk (wp F.1) (wn F.1)) (wf F.1) (wh F.1) (wo F.1) ps mn go vi h114_2 (by omega) (by omega) P3 h115_2 hpk) cv_X10_324 (by omega) h114_2 ⟨_, _, rfl⟩ ⟨rfl, rfl⟩ rfl hl.1 rfl (Nat.le_of_ble_eq_true rfl) ⟨Nat.zero_le _, Nat.zero_le _⟩ dX10_order_66 (fun g_4 H locs q_4 hP hS => ?_)
            obtain ⟨h114_4, h115_4, f_4⟩ := q_4
            have h122_4 : g_4 122 = .inl (cy 1, 8, .inl (fun x9 => nI (BY x9))) := (f_4 122 (by omega) (by omega)).trans h122_2
            have h123_4 : g_4 123 = .inl (cy 1, 1600, .inl (fun x9 => nI (BS x9))) := (f_4 123 (by omega) (by omega)).trans h123_2
            have h124_4 : g_4 124 = .inl (cy 1, 1600, .inl (fun x9 => nI (BN x9))) := (f_4 124 (by omega) (by omega)).trans h124_2
            have hfr_4 : ∀ j : Nat, j ≠ 114 → j ≠ 115 → g_4 j = g j := fun j n0 n1 => (f_4 j n0 n1).trans (hfr_2 j n0 n1)
            refine lv_iload_n hx hb dX10_order_69 rfl (lv_at hl 1 rfl) ?_
            exact rMi S hr hlk hP hS ⟨_, s3, pk (wp F.1) (wn F.1), wf F.1, wh F.1, wo F.1, (by simp only [if_pos hJ, nI_clamp hf031]; first | exact (hor.elim (fun q => by rw [q.1, ← q.2, show k9 = 60 by omega]; rfl) (fun q => q.2)) | exact (hor.elim (fun q => absurd q.1 c_28) (fun q => q.2))), (by rw [hn3]; intro i hi; rw [upk_at hi]; exact pk_nib hp8 hi), (by have q := h114_4; rw [hn3] at q; exact q), h115_4, hfr_4⟩ dX10_order_70
          · skip
            refine lv_aload_n hx hb dX10_order_31 rfl (lv_at hl 2 rfl) ?_
            refine lv_iload_n hx hb dX10_order_32 rfl (lv_at hl 3 rfl) ?_
            refine lv_iconst (v := nI (0)) hx hb dX10_order_33 (by decide) ?_
            refine kMi (As := [.int (nI (f0)), .int (nI (0))]) (rest := []) S hK hP hS (fun _ h => h) (c_X10_goes0 l D cy ad N g_2 hinj (by omega) F3 un la bo tp ft wr0 wa at0 sp tk vl fi nm dp wy s3 (pk (wp F.1) (wn F.1)) (wf F.1) (wh F.1) (wo F.1) ps mn go vi h114_2 P3 h115_2 hF3 hP3 BY h122_2 BS h123_2 BN h124_2 Fl FB hfi hFR f0 hf0b) cv_X10_296 (by omega) h114_2 ⟨_, _, rfl⟩ ⟨rfl, rfl⟩ rfl hl.1 rfl (Nat.le_of_ble_eq_true rfl) ⟨Nat.zero_le _, Nat.zero_le _⟩ dX10_order_34 (fun r_34 g_5 H locs q_5 hP hS => ?_)
            obtain ⟨P2_5, q_34, hP2_5, h114_5, h115_5, f_5⟩ := q_5
            subst q_34
            have h122_5 : g_5 122 = .inl (cy 1, 8, .inl (fun x9 => nI (BY x9))) := (f_5 122 (by omega) (by omega)).trans h122_2
            have h123_5 : g_5 123 = .inl (cy 1, 1600, .inl (fun x9 => nI (BS x9))) := (f_5 123 (by omega) (by omega)).trans h123_2
            have h124_5 : g_5 124 = .inl (cy 1, 1600, .inl (fun x9 => nI (BN x9))) := (f_5 124 (by omega) (by omega)).trans h124_2
            have hfr_5 : ∀ j : Nat, j ≠ 114 → j ≠ 115 → g_5 j = g j := fun j n0 n1 => (f_5 j n0 n1).trans (hfr_2 j n0 n1)
            have hgo := dn_ge (Nat.le_trans (rn_ok (B := FB f0) (len := Fl f0) (b0 := 0) hF3 (Fl f0)).2.2 (hFR f0 hf0b).2.1)
            have J58 : ∀ (f9 : Int32), ((f9 = -4 ∧ orA (FB f0) (Fl f0) F.1 (60 - (k9 + 1)) (rn (FB f0) (Fl f0) 0 F3 (Fl f0)).2.2 (k9 + 1) = orA (FB f0) (Fl f0) F.1 60 F 0) ∨ (¬ f9 = -4 ∧ f9 = orA (FB f0) (Fl f0) F.1 60 F 0)) → ∀ (ls : Array Slot), lv_has ls 4 [(3, .int (nI (k9 + 1))), (2, .int fo), (0, .ref (ad 114)), (1, .int (nI (f0)))] → W p l e (rmF 5 122) s m [.ref (ad 114), .int (nI f0)].toArray below meth c H locs 0 0 (MQ below (QI (fun r g1 => ∃ (P2 : Nat → Nat), ∃ (st2 : Int32), ∃ (aP2 : Nat), ∃ (aF2 : Nat), ∃ (aH2 : Nat), ∃ (aO2 : Nat), (r = if isI (nI f0) fi then orA (FB (nI f0).toNatClampNeg) (Fl (nI f0).toNatClampNeg) F.1 60 F 0 else -1) ∧ (∀ i, i < wn F.1 → P2 i = wp F.1 i) ∧ g1 114 = mob ad (nI (wn F.1)) (nI (wf F.1)) (nI (wh F.1)) (lN (wo F.1)) (nI (un)) la bo (nI (tp)) ft (nI (wr0)) (nI (wa)) (nI (at0)) (nI (sp)) (nI (tk)) vl (nI (fi)) (nI (nm)) (nI (dp)) wy st2 (nI (aP2)) (nI (aF2)) (nI (aH2)) (lN aO2) (nI (ps)) (nI (mn)) go (nI (vi)) ∧ g1 115 = .inl (cy 1, 8, .inl (fun x9 => nI (P2 x9))) ∧ (∀ j, j ≠ 114 → j ≠ 115 → g1 j = g j)) D ad N) [.ref (ad 114), .int (nI f0)].toArray s 0 0 (AA ad N)) (F0 m 58 ls [.int f9]) := by
              intro f9 hf9 ls hl
              refine lv_istore_n (lv' := [(2, .int f9), (3, .int (nI (k9 + 1))), (0, .ref (ad 114)), (1, .int (nI (f0)))]) hx hb dX10_order_58 rfl hl (by decide) rfl (fun ls hl => ?_)
              refine lv_iinc (v := nI ((k9 + 1) + 1)) (lv' := [(3, .int (nI ((k9 + 1) + 1))), (2, .int f9), (0, .ref (ad 114)), (1, .int (nI (f0)))]) hx hb dX10_order_59 hl (k := 1) rfl (by exact nI_add (k9 + 1) 1) (by decide) rfl (fun ls hl => ?_)
              refine lv_goto (tgt := 19) hx hb dX10_order_62 (by decide) ?_
              exact ih19 (k9 + 1) f9 ((rn (FB f0) (Fl f0) 0 F3 (Fl f0)).2.1) ((rn (FB f0) (Fl f0) 0 F3 (Fl f0)).2.2) P2_5 (by omega) (rn_ok hF3 _).1 (by rw [(rn_ok hF3 _).2.1]; exact hP2_5) ((rn_ok hF3 _).2.1.trans hn3) hf9 (by omega) g_5 _ _ (by rw [(rn_ok (B := FB f0) (len := Fl f0) (b0 := 0) hF3 (Fl f0)).2.1]; exact h114_5) h115_5 hfr_5 hP hS _ (lv_sub hl [0, 1, 2, 3] rfl)
            refine lv_if_ge (tgt := 45) hx hb dX10_order_37 (by decide) (fun c_37 => ?_) (fun c_37 => ?_)
            · skip
              refine lv_aload_n hx hb dX10_order_45 rfl (lv_at hl 2 rfl) ?_
              refine kVi (As := []) (rest := []) S hK hP (c_X10_isAside l D cy ad N g_5 (by omega) ((rn (FB f0) (Fl f0) 0 F3 (Fl f0)).2.2.1) F.1 un la bo tp ft wr0 wa at0 sp tk vl fi nm dp wy ((rn (FB f0) (Fl f0) 0 F3 (Fl f0)).2.1) ps mn go vi (by have q := h114_5; rw [hn3] at q; rw [(rn_ok (B := FB f0) (len := Fl f0) (b0 := 0) hF3 (Fl f0)).2.1, hn3]; exact q) P2_5 h115_5 (rn_ok hF3 _).1.1 (by rw [(rn_ok (B := FB f0) (len := Fl f0) (b0 := 0) hF3 (Fl f0)).2.1]; exact hP2_5) hF.1 (by rw [(rn_ok (B := FB f0) (len := Fl f0) (b0 := 0) hF3 (Fl f0)).2.1]; exact hn3.symm)) cv_X10_321 (by omega) h114_5 ⟨_, _, rfl⟩ ⟨rfl, rfl⟩ rfl hl.1 rfl (Nat.le_of_ble_eq_true rfl) ⟨Nat.zero_le _, Nat.zero_le _⟩ dX10_order_46 (fun r_46 q_46 => ?_)
              subst q_46
              refine lv_if_eq (tgt := 56) hx hb dX10_order_49 (by decide) (fun c_49 => ?_) (fun c_49 => ?_)
              · skip
                have c_49 := bz_eq.mp c_49
                refine lv_bipush (v := (-4)) hx hb dX10_order_56 (by decide) ?_
                exact J58 (-4) (Or.inl ⟨rfl, by rcases hor with q | q; exact (orA_n (by omega) (hgo.mp c_37) c_49).symm.trans q.2; exact absurd c_28 q.1⟩) _ (lv_sub hl [0, 1, 2, 3] rfl)
              · skip
                have c_49 := bz_ne.mp c_49
                refine lv_iload_n hx hb dX10_order_52 rfl (lv_at hl 0 rfl) ?_
                refine lv_goto (tgt := 58) hx hb dX10_order_53 (by decide) ?_
                exact J58 (nI (k9 + 1)) (Or.inr ⟨nI_m4 (by omega), by rcases hor with q | q; exact (orA_y (by omega) (hgo.mp c_37) c_49).symm.trans q.2; exact absurd c_28 q.1⟩) _ (lv_sub hl [0, 1, 2, 3] rfl)
            · skip
              refine lv_bipush (v := (-2)) hx hb dX10_order_40 (by decide) ?_
              refine lv_goto (tgt := 58) hx hb dX10_order_42 (by decide) ?_
              exact J58 (-2) (Or.inr ⟨by decide, by rcases hor with q | q; exact (orA_r (by omega) (fun z => c_37 (hgo.mpr z))).symm.trans q.2; exact absurd c_28 q.1⟩) _ (lv_sub hl [0, 1, 2, 3] rfl)
    exact L19 ((60 - 0) + 1) 0 (-4) st F P (by omega) hF hPw rfl (Or.inl ⟨rfl, rfl⟩) (Nat.lt_succ_self _) g_1 _ _ (by rw [← pk_congr hPw]; exact h114_1) h115_1 (fun j n0 n1 => hfr_1 j (by omega)) hP hS _ (lv_sub hl [0, 1, 2, 3] rfl)
  · skip
    have c_5 := bz_eq.mp c_5
    have hJ : ¬ isI x0 fi := c_5
    refine lv_iconst (v := (-1)) hx hb dX10_order_8 (by decide) ?_
    exact rMi S hr hlk hP hS ⟨_, _, _, _, _, _, (if_neg hJ).symm, hPw, hM, hP9, (fun j n0 n1 => hfr j )⟩ dX10_order_9
set_option maxHeartbeats 4000000 in
set_option maxRecDepth 100000 in
theorem c_X10_mirrors (l : Launch) (D : va_G) (cy : Nat → ClassId) (ad : Nat → Nat) (N : Nat) (g : Nat → va_E) (hinj : ∀ i j : Nat, i < N → j < N → ad i = ad j → i = j) (hN : 145 ≤ N) (F : FS) (un : Nat) (la : Int32) (bo : Int32) (tp : Nat) (ft : Int32) (wr0 : Nat) (wa : Nat) (at0 : Nat) (sp : Nat) (tk : Nat) (vl : Int32) (fi : Nat) (nm : Nat) (dp : Nat) (wy : Int32) (st : Int32) (aP : Nat) (aF : Nat) (aH : Nat) (aO : Nat) (ps : Nat) (mn : Nat) (go : Int32) (vi : Nat) (hM : g 114 = mob ad (nI (wn F.1)) (nI (wf F.1)) (nI (wh F.1)) (lN (wo F.1)) (nI (un)) la bo (nI (tp)) ft (nI (wr0)) (nI (wa)) (nI (at0)) (nI (sp)) (nI (tk)) vl (nI (fi)) (nI (nm)) (nI (dp)) wy st (nI (aP)) (nI (aF)) (nI (aH)) (lN aO) (nI (ps)) (nI (mn)) go (nI (vi))) (P : Nat → Nat) (hP9 : g 115 = .inl (cy 1, 8, .inl (fun x9 => nI (P x9)))) (hF : FOK F) (hPw : ∀ i, i < wn F.1 → P i = wp F.1 i) (BY : Nat → Nat) (hBY : g 122 = .inl (cy 1, 8, .inl (fun x9 => nI (BY x9)))) (BS : Nat → Nat) (hBS : g 123 = .inl (cy 1, 1600, .inl (fun x9 => nI (BS x9)))) (BN : Nat → Nat) (hBN : g 124 = .inl (cy 1, 1600, .inl (fun x9 => nI (BN x9)))) (Fl : Nat → Nat) (FB : Nat → Nat → Nat) (hfi : fi ≤ 8) (hFR : FR fi BY BS BN Fl FB) (x0 : Int32) : Met l yX10_mirrors (WS yX10_mirrors cX10_mirrors 3 (some .int)) (rmF 5 124) (PP [.ref (ad 114), .int x0] D cy ad N g) (QI (fun r g1 => ∃ (P2 : Nat → Nat), ∃ (st2 : Int32), ∃ (aP2 : Nat), ∃ (aF2 : Nat), ∃ (aH2 : Nat), ∃ (aO2 : Nat), (r = if isI x0 fi then (if (rn (FB x0.toNatClampNeg) (Fl x0.toNatClampNeg) 0 F (Fl x0.toNatClampNeg)).2.1 = 0 then (if (rn (FB x0.toNatClampNeg) (Fl x0.toNatClampNeg) 1 (rn (FB x0.toNatClampNeg) (Fl x0.toNatClampNeg) 0 F (Fl x0.toNatClampNeg)).2.2 (Fl x0.toNatClampNeg)).2.1 = 0 then 1 else 2) else 0) else -1) ∧ (∀ i, i < wn F.1 → P2 i = wp F.1 i) ∧ g1 114 = mob ad (nI (wn F.1)) (nI (wf F.1)) (nI (wh F.1)) (lN (wo F.1)) (nI (un)) la bo (nI (tp)) ft (nI (wr0)) (nI (wa)) (nI (at0)) (nI (sp)) (nI (tk)) vl (nI (fi)) (nI (nm)) (nI (dp)) wy st2 (nI (aP2)) (nI (aF2)) (nI (aH2)) (lN aO2) (nI (ps)) (nI (mn)) go (nI (vi)) ∧ g1 115 = .inl (cy 1, 8, .inl (fun x9 => nI (P2 x9))) ∧ (∀ j, j ≠ 114 → j ≠ 115 → g1 j = g j)) D ad N) 0 0 (AA ad N) := by
  refine mentry (by decide) (Nat.le_of_ble_eq_true rfl) (fun p e s m below meth c ls S hr hlk hnm hP hK hl => ?_)
  have S : CallFix p m c cX10_mirrors 3 s _ wsL_law RX10 := S
  have hx := S.1
  have hb := S.2.1
  have hl : lv_has ls 3 [(0, .ref (ad 114)), (1, .int x0)] := hl
  have hI : MD (AA ad N) ad N := MD.in hinj
  have hS : va_S (AA ad N) s.heap s.heap [] := va_S.rf
  have hfr : ∀ j : Nat, g j = g j := fun _ => rfl
  have hw := hF.1
  have hn4 := hw.1.1
  have hn8 := hw.1.2
  have hp8 : ∀ i, i < wn F.1 → wp F.1 i < 8 := fun i hi => by have := hw.2.1.2.1 i hi; omega
  have hpk := pk_24 hn8 hp8
  refine lv_aload_n hx hb dX10_mirrors_0 rfl (lv_at hl 0 rfl) ?_
  refine lv_iload_n hx hb dX10_mirrors_1 rfl (lv_at hl 1 rfl) ?_
  refine kVi (As := [.int x0]) (rest := []) S hK hP (c_X10_isFigure l D cy ad N g (by omega) (wn F.1) (wf F.1) (wh F.1) (wo F.1) un la bo tp ft wr0 wa at0 sp tk vl fi nm dp wy st aP aF aH aO ps mn go vi hM hfi x0) cv_X10_286 (by omega) hM ⟨_, _, rfl⟩ ⟨rfl, rfl⟩ rfl hl.1 rfl (Nat.le_of_ble_eq_true rfl) ⟨Nat.zero_le _, Nat.zero_le _⟩ dX10_mirrors_2 (fun r_2 q_2 => ?_)
  subst q_2
  refine lv_if_ne (tgt := 10) hx hb dX10_mirrors_5 (by decide) (fun c_5 => ?_) (fun c_5 => ?_)
  · skip
    have c_5 := bz_ne.mp c_5
    obtain ⟨f0, hf0b, rfl⟩ := isI_nat (by omega) c_5
    have hJ := c_5
    have hf031 : f0 < 2 ^ 31 := by omega
    refine lv_aload_n hx hb dX10_mirrors_10 rfl (lv_at hl 0 rfl) ?_
    refine kMv (As := []) (rest := []) S hK hP hS (fun _ h => h) (c_X10_putAside l D cy ad N g hinj (by omega) (wn F.1) (wf F.1) (wh F.1) (wo F.1) un la bo tp ft wr0 wa at0 sp tk vl fi nm dp wy st aP aF aH aO ps mn go vi hM hn4 hn8 P hP9) cv_X10_318 (by omega) hM ⟨_, _, rfl⟩ ⟨rfl, rfl⟩ rfl hl.1 rfl (Nat.le_of_ble_eq_true rfl) ⟨Nat.zero_le _, Nat.zero_le _⟩ dX10_mirrors_11 (fun g_1 H locs q_1 hP hS => ?_)
    obtain ⟨h114_1, f_1⟩ := q_1
    have h115_1 : g_1 115 = .inl (cy 1, 8, .inl (fun x9 => nI (P x9))) := (f_1 115 (by omega)).trans hP9
    have h122_1 : g_1 122 = .inl (cy 1, 8, .inl (fun x9 => nI (BY x9))) := (f_1 122 (by omega)).trans hBY
    have h123_1 : g_1 123 = .inl (cy 1, 1600, .inl (fun x9 => nI (BS x9))) := (f_1 123 (by omega)).trans hBS
    have h124_1 : g_1 124 = .inl (cy 1, 1600, .inl (fun x9 => nI (BN x9))) := (f_1 124 (by omega)).trans hBN
    have hfr_1 : ∀ j : Nat, j ≠ 114 → g_1 j = g j := fun j n0 => (f_1 j n0).trans (hfr j )
    refine lv_aload_n hx hb dX10_mirrors_14 rfl (lv_at hl 0 rfl) ?_
    refine lv_iload_n hx hb dX10_mirrors_15 rfl (lv_at hl 1 rfl) ?_
    refine lv_iconst (v := nI (0)) hx hb dX10_mirrors_16 (by decide) ?_
    refine kMi (As := [.int (nI (f0)), .int (nI (0))]) (rest := []) S hK hP hS (fun _ h => h) (c_X10_goes0 l D cy ad N g_1 hinj (by omega) F un la bo tp ft wr0 wa at0 sp tk vl fi nm dp wy st (pk P (wn F.1)) ((wf F.1)) ((wh F.1)) ((wo F.1)) ps mn go vi h114_1 P h115_1 hF hPw BY h122_1 BS h123_1 BN h124_1 Fl FB hfi hFR f0 hf0b) cv_X10_296 (by omega) h114_1 ⟨_, _, rfl⟩ ⟨rfl, rfl⟩ rfl hl.1 rfl (Nat.le_of_ble_eq_true rfl) ⟨Nat.zero_le _, Nat.zero_le _⟩ dX10_mirrors_17 (fun r_17 g_2 H locs q_2 hP hS => ?_)
    obtain ⟨P2_2, q_17, hP2_2, h114_2, h115_2, f_2⟩ := q_2
    subst q_17
    have h122_2 : g_2 122 = .inl (cy 1, 8, .inl (fun x9 => nI (BY x9))) := (f_2 122 (by omega) (by omega)).trans h122_1
    have h123_2 : g_2 123 = .inl (cy 1, 1600, .inl (fun x9 => nI (BS x9))) := (f_2 123 (by omega) (by omega)).trans h123_1
    have h124_2 : g_2 124 = .inl (cy 1, 1600, .inl (fun x9 => nI (BN x9))) := (f_2 124 (by omega) (by omega)).trans h124_1
    have hfr_2 : ∀ j : Nat, j ≠ 114 → j ≠ 115 → g_2 j = g j := fun j n0 n1 => (f_2 j n0 n1).trans (hfr_1 j n0)
    have hg1 := dn_ge (Nat.le_trans (rn_ok (B := FB f0) (len := Fl f0) (b0 := 0) hF (Fl f0)).2.2 (hFR f0 hf0b).2.1)
    have J41 : ∀ (f9 : Nat) (s3 : Int32) (P3 : Nat → Nat) (w3 : WT), (nI f9 = (if (rn (FB f0) (Fl f0) 0 F (Fl f0)).2.1 = 0 then (if (rn (FB f0) (Fl f0) 1 (rn (FB f0) (Fl f0) 0 F (Fl f0)).2.2 (Fl f0)).2.1 = 0 then 1 else 2) else 0)) → ∀ (g_3 : Nat → va_E) (H : Heap) (locs : List Loc), g_3 114 = mob ad (nI (wn F.1)) (nI (wf w3)) (nI (wh w3)) (lN (wo w3)) (nI (un)) la bo (nI (tp)) ft (nI (wr0)) (nI (wa)) (nI (at0)) (nI (sp)) (nI (tk)) vl (nI (fi)) (nI (nm)) (nI (dp)) wy s3 (nI (pk P (wn F.1))) (nI (wf F.1)) (nI (wh F.1)) (lN (wo F.1)) (nI (ps)) (nI (mn)) go (nI (vi)) → g_3 115 = .inl (cy 1, 8, .inl (fun x9 => nI (P3 x9))) → (∀ j : Nat, j ≠ 114 → j ≠ 115 → g_3 j = g j) → MM D ad N g_3 H → va_S (AA ad N) s.heap H locs → ∀ (ls : Array Slot), lv_has ls 3 [(0, .ref (ad 114)), (1, .int (nI (f0)))] → W p l e (rmF 5 124) s m [.ref (ad 114), .int (nI f0)].toArray below meth c H locs 0 0 (MQ below (QI (fun r g1 => ∃ (P2 : Nat → Nat), ∃ (st2 : Int32), ∃ (aP2 : Nat), ∃ (aF2 : Nat), ∃ (aH2 : Nat), ∃ (aO2 : Nat), (r = if isI (nI f0) fi then (if (rn (FB (nI f0).toNatClampNeg) (Fl (nI f0).toNatClampNeg) 0 F (Fl (nI f0).toNatClampNeg)).2.1 = 0 then (if (rn (FB (nI f0).toNatClampNeg) (Fl (nI f0).toNatClampNeg) 1 (rn (FB (nI f0).toNatClampNeg) (Fl (nI f0).toNatClampNeg) 0 F (Fl (nI f0).toNatClampNeg)).2.2 (Fl (nI f0).toNatClampNeg)).2.1 = 0 then 1 else 2) else 0) else -1) ∧ (∀ i, i < wn F.1 → P2 i = wp F.1 i) ∧ g1 114 = mob ad (nI (wn F.1)) (nI (wf F.1)) (nI (wh F.1)) (lN (wo F.1)) (nI (un)) la bo (nI (tp)) ft (nI (wr0)) (nI (wa)) (nI (at0)) (nI (sp)) (nI (tk)) vl (nI (fi)) (nI (nm)) (nI (dp)) wy st2 (nI (aP2)) (nI (aF2)) (nI (aH2)) (lN aO2) (nI (ps)) (nI (mn)) go (nI (vi)) ∧ g1 115 = .inl (cy 1, 8, .inl (fun x9 => nI (P2 x9))) ∧ (∀ j, j ≠ 114 → j ≠ 115 → g1 j = g j)) D ad N) [.ref (ad 114), .int (nI f0)].toArray s 0 0 (AA ad N)) (F0 m 41 ls [.int (nI (f9))]) := by
      intro f9 s3 P3 w3 hf9 g_3 H locs h114_3 h115_3 hfr_3 hP hS ls hl
      have h122_3 : g_3 122 = .inl (cy 1, 8, .inl (fun x9 => nI (BY x9))) := (hfr_3 122 (by omega) (by omega)).trans hBY
      have h123_3 : g_3 123 = .inl (cy 1, 1600, .inl (fun x9 => nI (BS x9))) := (hfr_3 123 (by omega) (by omega)).trans hBS
      have h124_3 : g_3 124 = .inl (cy 1, 1600, .inl (fun x9 => nI (BN x9))) := (hfr_3 124 (by omega) (by omega)).trans hBN
      refine lv_istore_n (lv' := [(2, .int (nI (f9))), (0, .ref (ad 114)), (1, .int (nI (f0)))]) hx hb dX10_mirrors_41 rfl hl (by decide) rfl (fun ls hl => ?_)
      refine lv_aload_n hx hb dX10_mirrors_42 rfl (lv_at hl 1 rfl) ?_
      refine kMv (As := []) (rest := []) S hK hP hS (fun _ h => h) (c_X10_bringBack l D cy ad N g_3 hinj (by omega) (wn F.1) (wf w3) (wh w3) (wo w3) un la bo tp ft wr0 wa at0 sp tk vl fi nm dp wy s3 (pk P (wn F.1)) (wf F.1) (wh F.1) (wo F.1) ps mn go vi (by first | exact h114_3 | (rw [← (rn_ok (B := FB f0) (len := Fl f0) (b0 := 0) hF (Fl f0)).2.1]; exact h114_3)) hn4 hn8 P3 h115_3 (by rw [pk_congr hPw]; exact hpk)) cv_X10_324 (by omega) h114_3 ⟨_, _, rfl⟩ ⟨rfl, rfl⟩ rfl hl.1 rfl (Nat.le_of_ble_eq_true rfl) ⟨Nat.zero_le _, Nat.zero_le _⟩ dX10_mirrors_43 (fun g_4 H locs q_4 hP hS => ?_)
      obtain ⟨h114_4, h115_4, f_4⟩ := q_4
      have h122_4 : g_4 122 = .inl (cy 1, 8, .inl (fun x9 => nI (BY x9))) := (f_4 122 (by omega) (by omega)).trans h122_3
      have h123_4 : g_4 123 = .inl (cy 1, 1600, .inl (fun x9 => nI (BS x9))) := (f_4 123 (by omega) (by omega)).trans h123_3
      have h124_4 : g_4 124 = .inl (cy 1, 1600, .inl (fun x9 => nI (BN x9))) := (f_4 124 (by omega) (by omega)).trans h124_3
      have hfr_4 : ∀ j : Nat, j ≠ 114 → j ≠ 115 → g_4 j = g j := fun j n0 n1 => (f_4 j n0 n1).trans (hfr_3 j n0 n1)
      refine lv_iload_n hx hb dX10_mirrors_46 rfl (lv_at hl 0 rfl) ?_
      exact rMi S hr hlk hP hS ⟨_, s3, pk P (wn F.1), wf F.1, wh F.1, wo F.1, (by simp only [if_pos hJ, nI_clamp hf031]; exact hf9), (by intro i hi; rw [upk_pk (P8 hw hPw) i hi]; exact hPw i hi), h114_4, h115_4, hfr_4⟩ dX10_mirrors_47
    refine lv_if_ge (tgt := 27) hx hb dX10_mirrors_20 (by decide) (fun c_20 => ?_) (fun c_20 => ?_)
    · skip
      refine lv_aload_n hx hb dX10_mirrors_27 rfl (lv_at hl 0 rfl) ?_
      refine lv_iload_n hx hb dX10_mirrors_28 rfl (lv_at hl 1 rfl) ?_
      refine lv_iconst (v := nI (0)) hx hb dX10_mirrors_29 (by decide) ?_
      refine kMi (As := [.int (nI (f0)), .int (nI (0))]) (rest := []) S hK hP hS (fun _ h => h) (c_X10_goesBack0 l D cy ad N g_2 hinj (by omega) ((rn (FB f0) (Fl f0) 0 F (Fl f0)).2.2) un la bo tp ft wr0 wa at0 sp tk vl fi nm dp wy ((rn (FB f0) (Fl f0) 0 F (Fl f0)).2.1) ((pk P (wn F.1))) (((wf F.1))) (((wh F.1))) (((wo F.1))) ps mn go vi (by rw [(rn_ok (B := FB f0) (len := Fl f0) (b0 := 0) hF (Fl f0)).2.1]; exact h114_2) P2_2 h115_2 (rn_ok (B := FB f0) (len := Fl f0) (b0 := 0) hF (Fl f0)).1 (by rw [(rn_ok (B := FB f0) (len := Fl f0) (b0 := 0) hF (Fl f0)).2.1]; exact hP2_2) BY h122_2 BS h123_2 BN h124_2 Fl FB hfi hFR f0 hf0b) cv_X10_303 (by omega) h114_2 ⟨_, _, rfl⟩ ⟨rfl, rfl⟩ rfl hl.1 rfl (Nat.le_of_ble_eq_true rfl) ⟨Nat.zero_le _, Nat.zero_le _⟩ dX10_mirrors_30 (fun r_30 g_5 H locs q_5 hP hS => ?_)
      obtain ⟨P2_5, q_30, hP2_5, h114_5, h115_5, f_5⟩ := q_5
      subst q_30
      have h122_5 : g_5 122 = .inl (cy 1, 8, .inl (fun x9 => nI (BY x9))) := (f_5 122 (by omega) (by omega)).trans h122_2
      have h123_5 : g_5 123 = .inl (cy 1, 1600, .inl (fun x9 => nI (BS x9))) := (f_5 123 (by omega) (by omega)).trans h123_2
      have h124_5 : g_5 124 = .inl (cy 1, 1600, .inl (fun x9 => nI (BN x9))) := (f_5 124 (by omega) (by omega)).trans h124_2
      have hfr_5 : ∀ j : Nat, j ≠ 114 → j ≠ 115 → g_5 j = g j := fun j n0 n1 => (f_5 j n0 n1).trans (hfr_2 j n0 n1)
      have hg2 := dn_ge (Nat.le_trans (rn_ok (B := FB f0) (len := Fl f0) (b0 := 1) (rn_ok (B := FB f0) (len := Fl f0) (b0 := 0) hF (Fl f0)).1 (Fl f0)).2.2 (hFR f0 hf0b).2.1)
      refine lv_if_ge (tgt := 40) hx hb dX10_mirrors_33 (by decide) (fun c_33 => ?_) (fun c_33 => ?_)
      · skip
        refine lv_iconst (v := nI (1)) hx hb dX10_mirrors_40 (by decide) ?_
        exact J41 1 ((rn (FB f0) (Fl f0) 1 ((rn (FB f0) (Fl f0) 0 F (Fl f0)).2.2) (Fl f0)).2.1) P2_5 ((rn (FB f0) (Fl f0) 1 (rn (FB f0) (Fl f0) 0 F (Fl f0)).2.2 (Fl f0)).2.2.1) (by rw [if_pos (hg1.mp c_20), if_pos (hg2.mp c_33)]; rfl) g_5 _ _ (by have q := h114_5; rw [(rn_ok (B := FB f0) (len := Fl f0) (b0 := 0) hF (Fl f0)).2.1] at q; exact q) h115_5 hfr_5 hP hS _ (lv_sub hl [0, 1] rfl)
      · skip
        refine lv_iconst (v := nI (2)) hx hb dX10_mirrors_36 (by decide) ?_
        refine lv_goto (tgt := 41) hx hb dX10_mirrors_37 (by decide) ?_
        exact J41 2 ((rn (FB f0) (Fl f0) 1 ((rn (FB f0) (Fl f0) 0 F (Fl f0)).2.2) (Fl f0)).2.1) P2_5 ((rn (FB f0) (Fl f0) 1 (rn (FB f0) (Fl f0) 0 F (Fl f0)).2.2 (Fl f0)).2.2.1) (by rw [if_pos (hg1.mp c_20), if_neg (fun z => c_33 (hg2.mpr z))]; rfl) g_5 _ _ (by have q := h114_5; rw [(rn_ok (B := FB f0) (len := Fl f0) (b0 := 0) hF (Fl f0)).2.1] at q; exact q) h115_5 hfr_5 hP hS _ (lv_sub hl [0, 1] rfl)
    · skip
      refine lv_iconst (v := nI (0)) hx hb dX10_mirrors_23 (by decide) ?_
      refine lv_goto (tgt := 41) hx hb dX10_mirrors_24 (by decide) ?_
      exact J41 0 ((rn (FB f0) (Fl f0) 0 F (Fl f0)).2.1) P2_2 ((rn (FB f0) (Fl f0) 0 F (Fl f0)).2.2.1) (by rw [if_neg (fun z => c_20 (hg1.mpr z))]; rfl) g_2 _ _ h114_2 h115_2 hfr_2 hP hS _ (lv_sub hl [0, 1] rfl)
  · skip
    have c_5 := bz_eq.mp c_5
    have hJ : ¬ isI x0 fi := c_5
    refine lv_iconst (v := (-1)) hx hb dX10_mirrors_8 (by decide) ?_
    exact rMi S hr hlk hP hS ⟨_, _, _, _, _, _, (if_neg hJ).symm, hPw, hM, hP9, (fun j n0 n1 => hfr j )⟩ dX10_mirrors_9

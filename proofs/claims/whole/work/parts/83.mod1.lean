def mob (ad : Nat → Nat) (n : Int32) (fa : Int32) (he : Int32) (ov : Int64) (un : Int32) (la : Int32) (bo : Int32) (tp : Int32) (ft : Int32) (wr0 : Int32) (wa : Int32) (at0 : Int32) (sp : Int32) (tk : Int32) (vl : Int32) (fi : Int32) (nm : Int32) (dp : Int32) (wy : Int32) (st : Int32) (aP : Int32) (aF : Int32) (aH : Int32) (aO : Int64) (ps : Int32) (mn : Int32) (go : Int32) (vi : Int32) : va_E := .inr (10, [.int n, .ref (ad 115), .int fa, .int he, .long ov, .int un, .ref (ad 116), .ref (ad 117), .ref (ad 118), .ref (ad 119), .ref (ad 120), .int la, .int bo, .ref (ad 121), .int tp, .int ft, .int wr0, .int wa, .int at0, .int sp, .int tk, .int vl, .int fi, .ref (ad 122), .ref (ad 123), .ref (ad 124), .int nm, .ref (ad 125), .ref (ad 126), .int dp, .ref (ad 127), .ref (ad 128), .ref (ad 129), .int wy, .int st, .int aP, .int aF, .int aH, .long aO, .int ps, .ref (ad 130), .ref (ad 131), .ref (ad 132), .ref (ad 133), .int mn, .ref (ad 134), .ref (ad 135), .ref (ad 136), .ref (ad 137), .ref (ad 138), .int go, .int vi, .ref (ad 139), .ref (ad 140), .ref (ad 141), .ref (ad 142), .ref (ad 143), .ref (ad 144)])
set_option maxHeartbeats 4000000 in
set_option maxRecDepth 100000 in
theorem c_X10_in (l : Launch) (D : va_G) (cy : Nat → ClassId) (ad : Nat → Nat) (N : Nat) (g : Nat → va_E) (a0 : Int64) (b0 : Int64) (d0 : Int64) : Met l yX10_in (WS yX10_in cX10_in 6 (some .boolean)) (rmF 0 0) (PP [.long a0, .long b0, .long d0] D cy ad N g) (vp_Si (fun r => r = if (b0 ≤ a0 ∧ a0 ≤ d0) then 1 else 0)) 0 0 (fun _ => False) := by
  refine mentry (by decide) (Nat.le_of_ble_eq_true rfl) (fun p e s m below meth c ls S hr hlk hnm hP hK hl => ?_)
  have S : CallFix p m c cX10_in 6 s _ wsL_law RX10 := S
  have hx := S.1
  have hb := S.2.1
  have hl : lv_has ls 6 [(0, .long a0), (2, .long b0), (4, .long d0)] := hl
  refine lv_lload_n hx hb dX10_in_0 rfl (lv_at hl 0 rfl) ?_
  refine lv_lload_n hx hb dX10_in_1 rfl (lv_at hl 1 rfl) ?_
  refine W.lcmp hx hb dX10_in_2 ?_
  refine lv_if_lt (tgt := 17) hx hb dX10_in_3 (by decide) (fun c_3 => ?_) (fun c_3 => ?_)
  · skip
    have c_3 := (lg_cmp_lt _ _).mp c_3
    refine lv_iconst (v := nI (0)) hx hb dX10_in_17 (by decide) ?_
    exact rSz S hr hlk (by first | exact Or.inl rfl | exact Or.inr rfl) (ifF (fun q => by first | exact absurd q.1 (Int64.not_le.mpr c_3) | exact absurd q.2 (Int64.not_le.mpr c_10))) dX10_in_18
  · skip
    have c_3 := (not_congr (lg_cmp_lt _ _)).mp c_3
    refine lv_lload_n hx hb dX10_in_6 rfl (lv_at hl 0 rfl) ?_
    refine lv_lload hx hb dX10_in_7 (lv_at hl 2 rfl) ?_
    refine W.lcmp hx hb dX10_in_9 ?_
    refine lv_if_gt (tgt := 17) hx hb dX10_in_10 (by decide) (fun c_10 => ?_) (fun c_10 => ?_)
    · skip
      have c_10 := (lg_cmp_gt _ _).mp c_10
      refine lv_iconst (v := nI (0)) hx hb dX10_in_17 (by decide) ?_
      exact rSz S hr hlk (by first | exact Or.inl rfl | exact Or.inr rfl) (ifF (fun q => by first | exact absurd q.1 (Int64.not_le.mpr c_3) | exact absurd q.2 (Int64.not_le.mpr c_10))) dX10_in_18
    · skip
      have c_10 := (not_congr (lg_cmp_gt _ _)).mp c_10
      refine lv_iconst (v := nI (1)) hx hb dX10_in_13 (by decide) ?_
      refine lv_goto (tgt := 18) hx hb dX10_in_14 (by decide) ?_
      exact rSz S hr hlk (by first | exact Or.inl rfl | exact Or.inr rfl) (ifT ⟨Int64.not_lt.mp c_3, Int64.not_lt.mp c_10⟩) dX10_in_18
set_option maxHeartbeats 4000000 in
set_option maxRecDepth 100000 in
theorem c_X10_isHeld (l : Launch) (D : va_G) (cy : Nat → ClassId) (ad : Nat → Nat) (N : Nat) (g : Nat → va_E) (hN : 145 ≤ N) (n : Nat) (fa : Nat) (he : Nat) (ov : Nat) (un : Nat) (la : Int32) (bo : Int32) (tp : Nat) (ft : Int32) (wr0 : Nat) (wa : Nat) (at0 : Nat) (sp : Nat) (tk : Nat) (vl : Int32) (fi : Nat) (nm : Nat) (dp : Nat) (wy : Int32) (st : Int32) (aP : Nat) (aF : Nat) (aH : Nat) (aO : Nat) (ps : Nat) (mn : Nat) (go : Int32) (vi : Nat) (hM : g 114 = mob ad (nI (n)) (nI (fa)) (nI (he)) (lN ov) (nI (un)) la bo (nI (tp)) ft (nI (wr0)) (nI (wa)) (nI (at0)) (nI (sp)) (nI (tk)) vl (nI (fi)) (nI (nm)) (nI (dp)) wy st (nI (aP)) (nI (aF)) (nI (aH)) (lN aO) (nI (ps)) (nI (mn)) go (nI (vi))) (i0 : Nat) (hi0 : i0 < 8) (hhe : he < 256) : Met l yX10_isHeld (WS yX10_isHeld cX10_isHeld 2 (some .boolean)) (rmF 0 0) (PP [.ref (ad 114), .int (nI (i0))] D cy ad N g) (vp_Si (fun r => r = if (he.testBit i0 = true) then 1 else 0)) 0 0 (fun _ => False) := by
  refine mentry (by decide) (Nat.le_of_ble_eq_true rfl) (fun p e s m below meth c ls S hr hlk hnm hP hK hl => ?_)
  have S : CallFix p m c cX10_isHeld 2 s _ wsL_law RX10 := S
  have hx := S.1
  have hb := S.2.1
  have hl : lv_has ls 2 [(0, .ref (ad 114)), (1, .int (nI (i0)))] := hl
  refine lv_aload_n hx hb dX10_isHeld_0 rfl (lv_at hl 0 rfl) ?_
  refine mg S hK hP (by omega) hM fd_X10_20 rfl dX10_isHeld_1 ?_
  refine lv_iload_n hx hb dX10_isHeld_4 rfl (lv_at hl 1 rfl) ?_
  refine lv_ishr hx hb dX10_isHeld_5 ?_
  refine tpi (shrN (by omega) (by omega)) ?_
  refine lv_iconst (v := nI (1)) hx hb dX10_isHeld_6 (by decide) ?_
  refine lv_iand hx hb dX10_isHeld_7 ?_
  refine tpi (nx_and (he / 2 ^ i0) 1) ?_
  have hz : he / 2 ^ i0 &&& 1 ≤ 1 := Nat.and_le_right
  refine lv_iconst (v := nI (1)) hx hb dX10_isHeld_8 (by decide) ?_
  refine lv_icmp_ne (tgt := 16) hx hb dX10_isHeld_9 (by decide) (fun c_9 => ?_) (fun c_9 => ?_)
  · skip
    have c_9 := (not_congr (nI_eq (by omega) (by omega))).mp c_9
    refine lv_iconst (v := nI (0)) hx hb dX10_isHeld_16 (by decide) ?_
    exact rSz S hr hlk (by first | exact Or.inl rfl | exact Or.inr rfl) (ifF (by rw [b1_0 (by omega)]; decide)) dX10_isHeld_17
  · skip
    have c_9 := (nI_eq (by omega) (by omega)).mp c_9
    refine lv_iconst (v := nI (1)) hx hb dX10_isHeld_12 (by decide) ?_
    refine lv_goto (tgt := 17) hx hb dX10_isHeld_13 (by decide) ?_
    exact rSz S hr hlk (by first | exact Or.inl rfl | exact Or.inr rfl) (ifT (b1_1 (by omega))) dX10_isHeld_17
set_option maxHeartbeats 4000000 in
set_option maxRecDepth 100000 in
theorem c_X10_isOver (l : Launch) (D : va_G) (cy : Nat → ClassId) (ad : Nat → Nat) (N : Nat) (g : Nat → va_E) (hN : 145 ≤ N) (n : Nat) (fa : Nat) (he : Nat) (ov : Nat) (un : Nat) (la : Int32) (bo : Int32) (tp : Nat) (ft : Int32) (wr0 : Nat) (wa : Nat) (at0 : Nat) (sp : Nat) (tk : Nat) (vl : Int32) (fi : Nat) (nm : Nat) (dp : Nat) (wy : Int32) (st : Int32) (aP : Nat) (aF : Nat) (aH : Nat) (aO : Nat) (ps : Nat) (mn : Nat) (go : Int32) (vi : Nat) (hM : g 114 = mob ad (nI (n)) (nI (fa)) (nI (he)) (lN ov) (nI (un)) la bo (nI (tp)) ft (nI (wr0)) (nI (wa)) (nI (at0)) (nI (sp)) (nI (tk)) vl (nI (fi)) (nI (nm)) (nI (dp)) wy st (nI (aP)) (nI (aF)) (nI (aH)) (lN aO) (nI (ps)) (nI (mn)) go (nI (vi))) (i0 : Nat) (hi0 : i0 < 8) (j0 : Nat) (hj0 : j0 < 8) : Met l yX10_isOver (WS yX10_isOver cX10_isOver 3 (some .boolean)) (rmF 0 0) (PP [.ref (ad 114), .int (nI (i0)), .int (nI (j0))] D cy ad N g) (vp_Si (fun r => r = if (ov.testBit (8 * i0 + j0) = true) then 1 else 0)) 0 0 (fun _ => False) := by
  refine mentry (by decide) (Nat.le_of_ble_eq_true rfl) (fun p e s m below meth c ls S hr hlk hnm hP hK hl => ?_)
  have S : CallFix p m c cX10_isOver 3 s _ wsL_law RX10 := S
  have hx := S.1
  have hb := S.2.1
  have hl : lv_has ls 3 [(0, .ref (ad 114)), (1, .int (nI (i0))), (2, .int (nI (j0)))] := hl
  refine lv_aload_n hx hb dX10_isOver_0 rfl (lv_at hl 0 rfl) ?_
  refine mg S hK hP (by omega) hM fd_X10_119 rfl dX10_isOver_1 ?_
  refine lv_bipush (v := nI (8)) hx hb dX10_isOver_4 (by decide) ?_
  refine lv_iload_n hx hb dX10_isOver_6 rfl (lv_at hl 1 rfl) ?_
  refine lv_imul hx hb dX10_isOver_7 ?_
  refine tpi (pk_mul 8 i0) ?_
  refine lv_iload_n hx hb dX10_isOver_8 rfl (lv_at hl 2 rfl) ?_
  refine lv_iadd hx hb dX10_isOver_9 ?_
  refine tpi (nI_add (8 * i0) j0) ?_
  refine lv_lshr hx hb dX10_isOver_10 rfl ?_
  refine lv_lconst (v := lN 1) hx hb dX10_isOver_11 (by decide) ?_
  refine lv_land hx hb dX10_isOver_12 ?_
  refine tpl (sar1 (by omega)) ?_
  refine lv_lconst (v := lN 1) hx hb dX10_isOver_13 (by decide) ?_
  refine W.lcmp hx hb dX10_isOver_14 ?_
  refine lv_if_ne (tgt := 22) hx hb dX10_isOver_15 (by decide) (fun c_15 => ?_) (fun c_15 => ?_)
  · skip
    have c_15 := (not_congr (lgN_eq (Nat.lt_trans (Nat.mod_lt _ (by decide)) (by decide)) (by decide))).mp c_15
    refine lv_iconst (v := nI (0)) hx hb dX10_isOver_22 (by decide) ?_
    exact rSz S hr hlk (by first | exact Or.inl rfl | exact Or.inr rfl) (ifF (fun q => c_15 ((tb_div _ _).mpr q))) dX10_isOver_23
  · skip
    have c_15 := (lgN_eq (Nat.lt_trans (Nat.mod_lt _ (by decide)) (by decide)) (by decide)).mp c_15
    refine lv_iconst (v := nI (1)) hx hb dX10_isOver_18 (by decide) ?_
    refine lv_goto (tgt := 23) hx hb dX10_isOver_19 (by decide) ?_
    exact rSz S hr hlk (by first | exact Or.inl rfl | exact Or.inr rfl) (ifT ((tb_div _ _).mp c_15)) dX10_isOver_23
set_option maxHeartbeats 4000000 in
set_option maxRecDepth 100000 in
theorem c_X10_doCross (l : Launch) (D : va_G) (cy : Nat → ClassId) (ad : Nat → Nat) (N : Nat) (g : Nat → va_E) (hN : 145 ≤ N) (n : Nat) (fa : Nat) (he : Nat) (ov : Nat) (un : Nat) (la : Int32) (bo : Int32) (tp : Nat) (ft : Int32) (wr0 : Nat) (wa : Nat) (at0 : Nat) (sp : Nat) (tk : Nat) (vl : Int32) (fi : Nat) (nm : Nat) (dp : Nat) (wy : Int32) (st : Int32) (aP : Nat) (aF : Nat) (aH : Nat) (aO : Nat) (ps : Nat) (mn : Nat) (go : Int32) (vi : Nat) (hM : g 114 = mob ad (nI (n)) (nI (fa)) (nI (he)) (lN ov) (nI (un)) la bo (nI (tp)) ft (nI (wr0)) (nI (wa)) (nI (at0)) (nI (sp)) (nI (tk)) vl (nI (fi)) (nI (nm)) (nI (dp)) wy st (nI (aP)) (nI (aF)) (nI (aH)) (lN aO) (nI (ps)) (nI (mn)) go (nI (vi))) (i0 : Nat) (hi0 : i0 < 8) (j0 : Nat) (hj0 : j0 < 8) : Met l yX10_doCross (WS yX10_doCross cX10_doCross 3 (some .boolean)) (rmF 1 22) (PP [.ref (ad 114), .int (nI (i0)), .int (nI (j0))] D cy ad N g) (vp_Si (fun r => r = if (ov.testBit (8 * i0 + j0) = true ∨ ov.testBit (8 * j0 + i0) = true) then 1 else 0)) 0 0 (fun _ => False) := by
  refine mentry (by decide) (Nat.le_of_ble_eq_true rfl) (fun p e s m below meth c ls S hr hlk hnm hP hK hl => ?_)
  have S : CallFix p m c cX10_doCross 3 s _ wsL_law RX10 := S
  have hx := S.1
  have hb := S.2.1
  have hl : lv_has ls 3 [(0, .ref (ad 114)), (1, .int (nI (i0))), (2, .int (nI (j0)))] := hl
  refine lv_aload_n hx hb dX10_doCross_0 rfl (lv_at hl 0 rfl) ?_
  refine lv_iload_n hx hb dX10_doCross_1 rfl (lv_at hl 1 rfl) ?_
  refine lv_iload_n hx hb dX10_doCross_2 rfl (lv_at hl 2 rfl) ?_
  refine kVi (As := [.int (nI (i0)), .int (nI (j0))]) (rest := []) S hK hP (c_X10_isOver l D cy ad N g (by omega) n fa he ov un la bo tp ft wr0 wa at0 sp tk vl fi nm dp wy st aP aF aH aO ps mn go vi hM i0 (by omega) j0 (by omega)) cv_X10_129 (by omega) hM ⟨_, _, rfl⟩ ⟨rfl, rfl⟩ rfl hl.1 rfl (Nat.le_of_ble_eq_true rfl) ⟨Nat.zero_le _, Nat.zero_le _⟩ dX10_doCross_3 (fun r_3 q_3 => ?_)
  subst q_3
  refine lv_if_ne (tgt := 18) hx hb dX10_doCross_6 (by decide) (fun c_6 => ?_) (fun c_6 => ?_)
  · skip
    have c_6 := bz_ne.mp c_6
    refine lv_iconst (v := nI (1)) hx hb dX10_doCross_18 (by decide) ?_
    refine lv_goto (tgt := 23) hx hb dX10_doCross_19 (by decide) ?_
    exact rSz S hr hlk (by first | exact Or.inl rfl | exact Or.inr rfl) (ifT (by first | exact Or.inl c_6 | exact Or.inr c_15)) dX10_doCross_23
  · skip
    have c_6 := bz_eq.mp c_6
    refine lv_aload_n hx hb dX10_doCross_9 rfl (lv_at hl 0 rfl) ?_
    refine lv_iload_n hx hb dX10_doCross_10 rfl (lv_at hl 2 rfl) ?_
    refine lv_iload_n hx hb dX10_doCross_11 rfl (lv_at hl 1 rfl) ?_
    refine kVi (As := [.int (nI (j0)), .int (nI (i0))]) (rest := []) S hK hP (c_X10_isOver l D cy ad N g (by omega) n fa he ov un la bo tp ft wr0 wa at0 sp tk vl fi nm dp wy st aP aF aH aO ps mn go vi hM j0 (by omega) i0 (by omega)) cv_X10_129 (by omega) hM ⟨_, _, rfl⟩ ⟨rfl, rfl⟩ rfl hl.1 rfl (Nat.le_of_ble_eq_true rfl) ⟨Nat.zero_le _, Nat.zero_le _⟩ dX10_doCross_12 (fun r_12 q_12 => ?_)
    subst q_12
    refine lv_if_eq (tgt := 22) hx hb dX10_doCross_15 (by decide) (fun c_15 => ?_) (fun c_15 => ?_)
    · skip
      have c_15 := bz_eq.mp c_15
      refine lv_iconst (v := nI (0)) hx hb dX10_doCross_22 (by decide) ?_
      exact rSz S hr hlk (by first | exact Or.inl rfl | exact Or.inr rfl) (ifF (fun q => q.elim c_6 c_15)) dX10_doCross_23
    · skip
      have c_15 := bz_ne.mp c_15
      refine lv_iconst (v := nI (1)) hx hb dX10_doCross_18 (by decide) ?_
      refine lv_goto (tgt := 23) hx hb dX10_doCross_19 (by decide) ?_
      exact rSz S hr hlk (by first | exact Or.inl rfl | exact Or.inr rfl) (ifT (by first | exact Or.inl c_6 | exact Or.inr c_15)) dX10_doCross_23
set_option maxHeartbeats 4000000 in
set_option maxRecDepth 100000 in
theorem c_X10_areJoined (l : Launch) (D : va_G) (cy : Nat → ClassId) (ad : Nat → Nat) (N : Nat) (g : Nat → va_E) (hN : 145 ≤ N) (n : Nat) (fa : Nat) (he : Nat) (ov : Nat) (un : Nat) (la : Int32) (bo : Int32) (tp : Nat) (ft : Int32) (wr0 : Nat) (wa : Nat) (at0 : Nat) (sp : Nat) (tk : Nat) (vl : Int32) (fi : Nat) (nm : Nat) (dp : Nat) (wy : Int32) (st : Int32) (aP : Nat) (aF : Nat) (aH : Nat) (aO : Nat) (ps : Nat) (mn : Nat) (go : Int32) (vi : Nat) (hM : g 114 = mob ad (nI (n)) (nI (fa)) (nI (he)) (lN ov) (nI (un)) la bo (nI (tp)) ft (nI (wr0)) (nI (wa)) (nI (at0)) (nI (sp)) (nI (tk)) vl (nI (fi)) (nI (nm)) (nI (dp)) wy st (nI (aP)) (nI (aF)) (nI (aH)) (lN aO) (nI (ps)) (nI (mn)) go (nI (vi))) (hn4 : 4 ≤ n) (hn8 : n ≤ 8) (i0 : Nat) (hi0 : i0 < n) (j0 : Nat) (hj0 : j0 < n) : Met l yX10_areJoined (WS yX10_areJoined cX10_areJoined 4 (some .boolean)) (rmF 0 0) (PP [.ref (ad 114), .int (nI (i0)), .int (nI (j0))] D cy ad N g) (vp_Si (fun r => r = if (i0 = j0 ∨ nx n i0 = j0 ∨ nx n j0 = i0) then 1 else 0)) 0 0 (fun _ => False) := by
  refine mentry (by decide) (Nat.le_of_ble_eq_true rfl) (fun p e s m below meth c ls S hr hlk hnm hP hK hl => ?_)
  have S : CallFix p m c cX10_areJoined 4 s _ wsL_law RX10 := S
  have hx := S.1
  have hb := S.2.1
  have hl : lv_has ls 4 [(0, .ref (ad 114)), (1, .int (nI (i0))), (2, .int (nI (j0)))] := hl
  have hsu := su_lt hi0 hj0
  refine lv_iload_n hx hb dX10_areJoined_0 rfl (lv_at hl 2 rfl) ?_
  refine lv_iload_n hx hb dX10_areJoined_1 rfl (lv_at hl 1 rfl) ?_
  refine lv_isub hx hb dX10_areJoined_2 ?_
  refine lv_aload_n hx hb dX10_areJoined_3 rfl (lv_at hl 0 rfl) ?_
  refine mg S hK hP (by omega) hM fd_X10_7 rfl dX10_areJoined_4 ?_
  refine lv_iadd hx hb dX10_areJoined_7 ?_
  refine tpi (sbn (by omega)) ?_
  refine lv_aload_n hx hb dX10_areJoined_8 rfl (lv_at hl 0 rfl) ?_
  refine mg S hK hP (by omega) hM fd_X10_7 rfl dX10_areJoined_9 ?_
  refine lv_irem hx hb dX10_areJoined_12 (fun h => by have h := (z_eq (by omega)).mp h; omega) ?_
  refine tpi (pk_rem (a := j0 + n - i0) (by omega) (by omega) (by omega)) ?_
  refine tpi (congrArg nI (sum_ (by omega) (by omega))) ?_
  refine lv_istore_n (lv' := [(3, .int (nI (su n i0 j0))), (0, .ref (ad 114)), (1, .int (nI (i0))), (2, .int (nI (j0)))]) hx hb dX10_areJoined_13 rfl hl (by decide) rfl (fun ls hl => ?_)
  refine lv_iload_n hx hb dX10_areJoined_14 rfl (lv_at hl 0 rfl) ?_
  refine lv_if_eq (tgt := 33) hx hb dX10_areJoined_15 (by decide) (fun c_15 => ?_) (fun c_15 => ?_)
  · skip
    have c_15 := (z_eq (by omega)).mp c_15
    refine lv_iconst (v := nI (1)) hx hb dX10_areJoined_33 (by decide) ?_
    refine lv_goto (tgt := 38) hx hb dX10_areJoined_34 (by decide) ?_
    exact rSz S hr hlk (by first | exact Or.inl rfl | exact Or.inr rfl) (ifT ((jn_iff hn4 hi0 hj0).mp (by first | exact Or.inl c_15 | exact Or.inr (Or.inl c_20) | exact Or.inr (Or.inr c_30)))) dX10_areJoined_38
  · skip
    have c_15 := (not_congr (z_eq (by omega))).mp c_15
    refine lv_iload_n hx hb dX10_areJoined_18 rfl (lv_at hl 0 rfl) ?_
    refine lv_iconst (v := nI (1)) hx hb dX10_areJoined_19 (by decide) ?_
    refine lv_icmp_eq (tgt := 33) hx hb dX10_areJoined_20 (by decide) (fun c_20 => ?_) (fun c_20 => ?_)
    · skip
      have c_20 := (nI_eq (by omega) (by omega)).mp c_20
      refine lv_iconst (v := nI (1)) hx hb dX10_areJoined_33 (by decide) ?_
      refine lv_goto (tgt := 38) hx hb dX10_areJoined_34 (by decide) ?_
      exact rSz S hr hlk (by first | exact Or.inl rfl | exact Or.inr rfl) (ifT ((jn_iff hn4 hi0 hj0).mp (by first | exact Or.inl c_15 | exact Or.inr (Or.inl c_20) | exact Or.inr (Or.inr c_30)))) dX10_areJoined_38
    · skip
      have c_20 := (not_congr (nI_eq (by omega) (by omega))).mp c_20
      refine lv_iload_n hx hb dX10_areJoined_23 rfl (lv_at hl 0 rfl) ?_
      refine lv_aload_n hx hb dX10_areJoined_24 rfl (lv_at hl 1 rfl) ?_
      refine mg S hK hP (by omega) hM fd_X10_7 rfl dX10_areJoined_25 ?_
      refine lv_iconst (v := nI (1)) hx hb dX10_areJoined_28 (by decide) ?_
      refine lv_isub hx hb dX10_areJoined_29 ?_
      refine tpi (pk_sub (a := n) (b := 1) (by omega)) ?_
      refine lv_icmp_ne (tgt := 37) hx hb dX10_areJoined_30 (by decide) (fun c_30 => ?_) (fun c_30 => ?_)
      · skip
        have c_30 := (not_congr (nI_eq (by omega) (by omega))).mp c_30
        refine lv_iconst (v := nI (0)) hx hb dX10_areJoined_37 (by decide) ?_
        exact rSz S hr hlk (by first | exact Or.inl rfl | exact Or.inr rfl) (ifF (fun q => by rcases (jn_iff hn4 hi0 hj0).mpr q with z | z | z; exact c_15 z; exact c_20 z; exact c_30 z)) dX10_areJoined_38
      · skip
        have c_30 := (nI_eq (by omega) (by omega)).mp c_30
        refine lv_iconst (v := nI (1)) hx hb dX10_areJoined_33 (by decide) ?_
        refine lv_goto (tgt := 38) hx hb dX10_areJoined_34 (by decide) ?_
        exact rSz S hr hlk (by first | exact Or.inl rfl | exact Or.inr rfl) (ifT ((jn_iff hn4 hi0 hj0).mp (by first | exact Or.inl c_15 | exact Or.inr (Or.inl c_20) | exact Or.inr (Or.inr c_30)))) dX10_areJoined_38
set_option maxHeartbeats 4000000 in
set_option maxRecDepth 100000 in
theorem c_X10_lays (l : Launch) (D : va_G) (cy : Nat → ClassId) (ad : Nat → Nat) (N : Nat) (g : Nat → va_E) (hinj : ∀ i j : Nat, i < N → j < N → ad i = ad j → i = j) (hN : 145 ≤ N) (n : Nat) (fa : Nat) (he : Nat) (ov : Nat) (un : Nat) (la : Int32) (bo : Int32) (tp : Nat) (ft : Int32) (wr0 : Nat) (wa : Nat) (at0 : Nat) (sp : Nat) (tk : Nat) (vl : Int32) (fi : Nat) (nm : Nat) (dp : Nat) (wy : Int32) (st : Int32) (aP : Nat) (aF : Nat) (aH : Nat) (aO : Nat) (ps : Nat) (mn : Nat) (go : Int32) (vi : Nat) (hM : g 114 = mob ad (nI (n)) (nI (fa)) (nI (he)) (lN ov) (nI (un)) la bo (nI (tp)) ft (nI (wr0)) (nI (wa)) (nI (at0)) (nI (sp)) (nI (tk)) vl (nI (fi)) (nI (nm)) (nI (dp)) wy st (nI (aP)) (nI (aF)) (nI (aH)) (lN aO) (nI (ps)) (nI (mn)) go (nI (vi))) (hov : ov < 2 ^ 64) (i0 : Nat) (hi0 : i0 < 8) (j0 : Nat) (hj0 : j0 < 8) (b9 : Nat) (hb9 : b9 < 2) : Met l yX10_lays (WS yX10_lays cX10_lays 6 none) (rmF 0 0) (PP [.ref (ad 114), .int (nI (i0)), .int (nI (j0)), .int (nI (b9))] D cy ad N g) (QV (fun g1 => g1 114 = mob ad (nI (n)) (nI (fa)) (nI (he)) (lN (if b9 = 0 then an ov (2 ^ (8 * i0 + j0)) else ov ||| 2 ^ (8 * i0 + j0))) (nI (un)) la bo (nI (tp)) ft (nI (wr0)) (nI (wa)) (nI (at0)) (nI (sp)) (nI (tk)) vl (nI (fi)) (nI (nm)) (nI (dp)) wy st (nI (aP)) (nI (aF)) (nI (aH)) (lN aO) (nI (ps)) (nI (mn)) go (nI (vi)) ∧ (∀ j, j ≠ 114 → g1 j = g j)) D ad N) 0 0 (AA ad N) := by
  refine mentry (by decide) (Nat.le_of_ble_eq_true rfl) (fun p e s m below meth c ls S hr hlk hnm hP hK hl => ?_)
  have S : CallFix p m c cX10_lays 6 s _ wsL_law RX10 := S
  have hx := S.1
  have hb := S.2.1
  have hl : lv_has ls 6 [(0, .ref (ad 114)), (1, .int (nI (i0))), (2, .int (nI (j0))), (3, .int (nI (b9)))] := hl
  have hI : MD (AA ad N) ad N := MD.in hinj
  have hS : va_S (AA ad N) s.heap s.heap [] := va_S.rf
  have hfr : ∀ j : Nat, g j = g j := fun _ => rfl
  refine lv_lconst (v := lN 1) hx hb dX10_lays_0 (by decide) ?_
  refine lv_bipush (v := nI (8)) hx hb dX10_lays_1 (by decide) ?_
  refine lv_iload_n hx hb dX10_lays_3 rfl (lv_at hl 1 rfl) ?_
  refine lv_imul hx hb dX10_lays_4 ?_
  refine tpi (pk_mul 8 i0) ?_
  refine lv_iload_n hx hb dX10_lays_5 rfl (lv_at hl 2 rfl) ?_
  refine lv_iadd hx hb dX10_lays_6 ?_
  refine tpi (nI_add (8 * i0) j0) ?_
  refine lv_lshl hx hb dX10_lays_7 rfl ?_
  refine tpl (wb_shl 1 (k := (8 * i0) + j0) (by omega)) ?_
  refine tpl (by rw [Nat.one_mul]) ?_
  refine lv_lstore (lv' := [(4, .long (lN (2 ^ (8 * i0 + j0)))), (0, .ref (ad 114)), (1, .int (nI (i0))), (2, .int (nI (j0))), (3, .int (nI (b9)))]) hx hb dX10_lays_8 hl (by decide) rfl (fun ls hl => ?_)
  refine lv_aload_n hx hb dX10_lays_10 rfl (lv_at hl 1 rfl) ?_
  refine lv_iload_n hx hb dX10_lays_11 rfl (lv_at hl 4 rfl) ?_
  have J36 : ∀ (o9 : Nat), (o9 = if b9 = 0 then an ov (2 ^ (8 * i0 + j0)) else ov ||| 2 ^ (8 * i0 + j0)) → ∀ (ls : Array Slot), lv_has ls 6 [(4, .long (lN (2 ^ (8 * i0 + j0)))), (0, .ref (ad 114)), (1, .int (nI (i0))), (2, .int (nI (j0))), (3, .int (nI (b9)))] → W p l e (rmF 0 0) s m [.ref (ad 114), .int (nI (i0)), .int (nI (j0)), .int (nI (b9))].toArray below meth c s.heap [] 0 0 (MQ below (QV (fun g1 => g1 114 = mob ad (nI (n)) (nI (fa)) (nI (he)) (lN (if b9 = 0 then an ov (2 ^ (8 * i0 + j0)) else ov ||| 2 ^ (8 * i0 + j0))) (nI (un)) la bo (nI (tp)) ft (nI (wr0)) (nI (wa)) (nI (at0)) (nI (sp)) (nI (tk)) vl (nI (fi)) (nI (nm)) (nI (dp)) wy st (nI (aP)) (nI (aF)) (nI (aH)) (lN aO) (nI (ps)) (nI (mn)) go (nI (vi)) ∧ (∀ j, j ≠ 114 → g1 j = g j)) D ad N) [.ref (ad 114), .int (nI (i0)), .int (nI (j0)), .int (nI (b9))].toArray s 0 0 (AA ad N)) (F0 m 36 ls [.long (lN o9), .ref (ad 114)]) := by
    intro o9 ho9 ls hl
    refine mp S hK hP hI hS (by omega) hM fd_X10_119 rfl rfl (Nat.le_of_ble_eq_true rfl) dX10_lays_36 (fun g_1 H locs eg_1 hP hS => ?_)
    have h114_1 : g_1 114 = mob ad (nI (n)) (nI (fa)) (nI (he)) (lN o9) (nI (un)) la bo (nI (tp)) ft (nI (wr0)) (nI (wa)) (nI (at0)) (nI (sp)) (nI (tk)) vl (nI (fi)) (nI (nm)) (nI (dp)) wy st (nI (aP)) (nI (aF)) (nI (aH)) (lN aO) (nI (ps)) (nI (mn)) go (nI (vi)) := by rw [eg_1, va_up_self]; exact rfl
    have hfr_1 : ∀ j : Nat, j ≠ 114 → g_1 j = g j := fun j n0 => ((congrFun eg_1 _).trans (va_up_ne _ _ n0)).trans (hfr j )
    exact rMv S hr hlk hP hS ⟨(by rw [← ho9]; exact h114_1), hfr_1⟩ dX10_lays_39
  refine lv_if_eq (tgt := 25) hx hb dX10_lays_12 (by decide) (fun c_12 => ?_) (fun c_12 => ?_)
  · skip
    have c_12 := (z_eq (by omega)).mp c_12
    refine lv_aload_n hx hb dX10_lays_25 rfl (lv_at hl 1 rfl) ?_
    refine mg S hK hP (by omega) hM fd_X10_119 rfl dX10_lays_26 ?_
    refine lv_lload hx hb dX10_lays_29 (lv_at hl 0 rfl) ?_
    refine lv_ldc2 hx hb S.2.2.2.1 (S.2.2.2.2 _ m_X10_133) dX10_lays_31 ?_
    refine lv_lxor hx hb dX10_lays_34 ?_
    refine lv_land hx hb dX10_lays_35 ?_
    refine tpl (lN_an _ _) ?_
    exact J36 (an ov (2 ^ (8 * i0 + j0))) (if_pos c_12).symm _ (lv_sub hl [0, 1, 2, 3, 4] rfl)
  · skip
    have c_12 := (not_congr (z_eq (by omega))).mp c_12
    refine lv_aload_n hx hb dX10_lays_15 rfl (lv_at hl 1 rfl) ?_
    refine mg S hK hP (by omega) hM fd_X10_119 rfl dX10_lays_16 ?_
    refine lv_lload hx hb dX10_lays_19 (lv_at hl 0 rfl) ?_
    refine lv_lor hx hb dX10_lays_21 ?_
    refine tpl (wb_or hov (p64 hi0 hj0)) ?_
    refine lv_goto (tgt := 36) hx hb dX10_lays_22 (by decide) ?_
    exact J36 (ov ||| (2 ^ (8 * i0 + j0))) (if_neg c_12).symm _ (lv_sub hl [0, 1, 2, 3, 4] rfl)
set_option maxHeartbeats 4000000 in
set_option maxRecDepth 100000 in
theorem c_X10_packed (l : Launch) (D : va_G) (cy : Nat → ClassId) (ad : Nat → Nat) (N : Nat) (g : Nat → va_E) (hN : 145 ≤ N) (n : Nat) (fa : Nat) (he : Nat) (ov : Nat) (un : Nat) (la : Int32) (bo : Int32) (tp : Nat) (ft : Int32) (wr0 : Nat) (wa : Nat) (at0 : Nat) (sp : Nat) (tk : Nat) (vl : Int32) (fi : Nat) (nm : Nat) (dp : Nat) (wy : Int32) (st : Int32) (aP : Nat) (aF : Nat) (aH : Nat) (aO : Nat) (ps : Nat) (mn : Nat) (go : Int32) (vi : Nat) (hM : g 114 = mob ad (nI (n)) (nI (fa)) (nI (he)) (lN ov) (nI (un)) la bo (nI (tp)) ft (nI (wr0)) (nI (wa)) (nI (at0)) (nI (sp)) (nI (tk)) vl (nI (fi)) (nI (nm)) (nI (dp)) wy st (nI (aP)) (nI (aF)) (nI (aH)) (lN aO) (nI (ps)) (nI (mn)) go (nI (vi))) (hn4 : 4 ≤ n) (hn8 : n ≤ 8) (P : Nat → Nat) (hP9 : g 115 = .inl (cy 1, 8, .inl (fun x9 => nI (P x9)))) : Met l yX10_packed (WS yX10_packed cX10_packed 3 (some .int)) (rmF 0 0) (PP [.ref (ad 114)] D cy ad N g) (vp_Si (fun r => r = nI (pk P n))) 0 0 (fun _ => False) := by
  refine mentry (by decide) (Nat.le_of_ble_eq_true rfl) (fun p e s m below meth c ls S hr hlk hnm hP hK hl => ?_)
  have S : CallFix p m c cX10_packed 3 s _ wsL_law RX10 := S
  have hx := S.1
  have hb := S.2.1
  have hl : lv_has ls 3 [(0, .ref (ad 114))] := hl
  refine lv_iconst (v := nI (0)) hx hb dX10_packed_0 (by decide) ?_
  refine lv_istore_n (lv' := [(1, .int (nI (0))), (0, .ref (ad 114))]) hx hb dX10_packed_1 rfl hl (by decide) rfl (fun ls hl => ?_)
  refine lv_iconst (v := nI (0)) hx hb dX10_packed_2 (by decide) ?_
  refine lv_istore_n (lv' := [(2, .int (nI (0))), (1, .int (nI (0))), (0, .ref (ad 114))]) hx hb dX10_packed_3 rfl hl (by decide) rfl (fun ls hl => ?_)
  have L4 : ∀ (fu : Nat) (i v : Nat), (i ≤ n) → (v = pk P i) → (n - i) < fu → ∀ (ls : Array Slot), lv_has ls 3 [(2, .int (nI (i))), (1, .int (nI (v))), (0, .ref (ad 114))] → W p l e (rmF 0 0) s m [.ref (ad 114)].toArray below meth c s.heap [] 0 0 (MQ below (vp_Si (fun r => r = nI (pk P n))) [.ref (ad 114)].toArray s 0 0 (fun _ => False)) (F0 m 4 ls []) := by
    intro fu
    induction fu with
    | zero => intro i v hi hv hms ls hl; exact absurd hms (Nat.not_lt_zero _)
    | succ fu ih4 =>
      intro i v hi hv hms ls hl
      refine lv_iload_n hx hb dX10_packed_4 rfl (lv_at hl 0 rfl) ?_
      refine lv_aload_n hx hb dX10_packed_5 rfl (lv_at hl 2 rfl) ?_
      refine mg S hK hP (by omega) hM fd_X10_7 rfl dX10_packed_6 ?_
      refine lv_icmp_ge (tgt := 31) hx hb dX10_packed_9 (by decide) (fun c_9 => ?_) (fun c_9 => ?_)
      · skip
        have c_9 := (nI_leI (by omega) (by omega)).mp c_9
        refine lv_iload_n hx hb dX10_packed_31 rfl (lv_at hl 1 rfl) ?_
        exact rSi S hr hlk (by have e : i = n := (by omega); rw [hv, e]) dX10_packed_32
      · skip
        have c_9 := (not_congr (nI_leI (by omega) (by omega))).mp c_9
        refine lv_iload_n hx hb dX10_packed_12 rfl (lv_at hl 1 rfl) ?_
        refine lv_aload_n hx hb dX10_packed_13 rfl (lv_at hl 2 rfl) ?_
        refine mg S hK hP (by omega) hM fd_X10_13 rfl dX10_packed_14 ?_
        refine lv_iload_n hx hb dX10_packed_17 rfl (lv_at hl 0 rfl) ?_
        refine mial S hK hP (by omega) hP9 (vp_in_nI (by omega) (by omega)) dX10_packed_18 ?_
        refine tpi (congrArg ((fun x9 => nI (P x9))) (nI_clamp (by omega))) ?_
        refine lv_iconst (v := nI (3)) hx hb dX10_packed_19 (by decide) ?_
        refine lv_iload_n hx hb dX10_packed_20 rfl (lv_at hl 0 rfl) ?_
        refine lv_imul hx hb dX10_packed_21 ?_
        refine tpi (pk_mul 3 i) ?_
        refine lv_ishl hx hb dX10_packed_22 ?_
        refine tpi (shlN (P i) (by omega)) ?_
        refine lv_ior hx hb dX10_packed_23 ?_
        refine tpi (nI_or v ((P i) * 2 ^ (3 * i))) ?_
        refine lv_istore_n (lv' := [(1, .int (nI (v ||| ((P i) * 2 ^ (3 * i))))), (2, .int (nI (i))), (0, .ref (ad 114))]) hx hb dX10_packed_24 rfl hl (by decide) rfl (fun ls hl => ?_)
        refine lv_iinc (v := nI (i + 1)) (lv' := [(2, .int (nI (i + 1))), (1, .int (nI (v ||| ((P i) * 2 ^ (3 * i))))), (0, .ref (ad 114))]) hx hb dX10_packed_25 hl (k := 1) rfl (by exact nI_add i 1) (by decide) rfl (fun ls hl => ?_)
        refine lv_goto (tgt := 4) hx hb dX10_packed_28 (by decide) ?_
        exact ih4 (i + 1) (v ||| ((P i) * 2 ^ (3 * i))) (by omega) (by rw [hv]; rfl) (by omega) _ (lv_sub hl [0, 1, 2] rfl)
  exact L4 ((n - 0) + 1) 0 0 (by omega) rfl (Nat.lt_succ_self _) _ (lv_sub hl [0, 1, 2] rfl)
set_option maxHeartbeats 4000000 in
set_option maxRecDepth 100000 in
theorem c_X10_unpack (l : Launch) (D : va_G) (cy : Nat → ClassId) (ad : Nat → Nat) (N : Nat) (g : Nat → va_E) (hinj : ∀ i j : Nat, i < N → j < N → ad i = ad j → i = j) (hN : 145 ≤ N) (n : Nat) (fa : Nat) (he : Nat) (ov : Nat) (un : Nat) (la : Int32) (bo : Int32) (tp : Nat) (ft : Int32) (wr0 : Nat) (wa : Nat) (at0 : Nat) (sp : Nat) (tk : Nat) (vl : Int32) (fi : Nat) (nm : Nat) (dp : Nat) (wy : Int32) (st : Int32) (aP : Nat) (aF : Nat) (aH : Nat) (aO : Nat) (ps : Nat) (mn : Nat) (go : Int32) (vi : Nat) (hM : g 114 = mob ad (nI (n)) (nI (fa)) (nI (he)) (lN ov) (nI (un)) la bo (nI (tp)) ft (nI (wr0)) (nI (wa)) (nI (at0)) (nI (sp)) (nI (tk)) vl (nI (fi)) (nI (nm)) (nI (dp)) wy st (nI (aP)) (nI (aF)) (nI (aH)) (lN aO) (nI (ps)) (nI (mn)) go (nI (vi))) (hn4 : 4 ≤ n) (hn8 : n ≤ 8) (P : Nat → Nat) (hP9 : g 115 = .inl (cy 1, 8, .inl (fun x9 => nI (P x9)))) (v0 : Nat) (hv0 : v0 < 2 ^ 24) : Met l yX10_unpack (WS yX10_unpack cX10_unpack 3 none) (rmF 0 0) (PP [.ref (ad 114), .int (nI (v0))] D cy ad N g) (QV (fun g1 => g1 115 = .inl (cy 1, 8, .inl (fun x9 => nI ((upk v0 P n) x9))) ∧ (∀ j, j ≠ 115 → g1 j = g j)) D ad N) 0 0 (AA ad N) := by
  refine mentry (by decide) (Nat.le_of_ble_eq_true rfl) (fun p e s m below meth c ls S hr hlk hnm hP hK hl => ?_)
  have S : CallFix p m c cX10_unpack 3 s _ wsL_law RX10 := S
  have hx := S.1
  have hb := S.2.1
  have hl : lv_has ls 3 [(0, .ref (ad 114)), (1, .int (nI (v0)))] := hl
  have hI : MD (AA ad N) ad N := MD.in hinj
  have hS : va_S (AA ad N) s.heap s.heap [] := va_S.rf
  have hfr : ∀ j : Nat, g j = g j := fun _ => rfl
  refine lv_iconst (v := nI (0)) hx hb dX10_unpack_0 (by decide) ?_
  refine lv_istore_n (lv' := [(2, .int (nI (0))), (0, .ref (ad 114)), (1, .int (nI (v0)))]) hx hb dX10_unpack_1 rfl hl (by decide) rfl (fun ls hl => ?_)
  have L2 : ∀ (fu : Nat) (i : Nat), (i ≤ n) → (n - i) < fu → ∀ (g_1 : Nat → va_E) (H : Heap) (locs : List Loc), g_1 115 = .inl (cy 1, 8, .inl (fun x9 => nI ((upk v0 P i) x9))) → (∀ j : Nat, j ≠ 115 → g_1 j = g j) → MM D ad N g_1 H → va_S (AA ad N) s.heap H locs → ∀ (ls : Array Slot), lv_has ls 3 [(2, .int (nI (i))), (0, .ref (ad 114)), (1, .int (nI (v0)))] → W p l e (rmF 0 0) s m [.ref (ad 114), .int (nI (v0))].toArray below meth c H locs 0 0 (MQ below (QV (fun g1 => g1 115 = .inl (cy 1, 8, .inl (fun x9 => nI ((upk v0 P n) x9))) ∧ (∀ j, j ≠ 115 → g1 j = g j)) D ad N) [.ref (ad 114), .int (nI (v0))].toArray s 0 0 (AA ad N)) (F0 m 2 ls []) := by
    intro fu
    induction fu with
    | zero => intro i hi hms g_1 H locs h115_1 hfr_1 hP hS ls hl; exact absurd hms (Nat.not_lt_zero _)
    | succ fu ih2 =>
      intro i hi hms g_1 H locs h115_1 hfr_1 hP hS ls hl
      have h114_1 : g_1 114 = mob ad (nI (n)) (nI (fa)) (nI (he)) (lN ov) (nI (un)) la bo (nI (tp)) ft (nI (wr0)) (nI (wa)) (nI (at0)) (nI (sp)) (nI (tk)) vl (nI (fi)) (nI (nm)) (nI (dp)) wy st (nI (aP)) (nI (aF)) (nI (aH)) (lN aO) (nI (ps)) (nI (mn)) go (nI (vi)) := (hfr_1 114 (by omega)).trans hM
      refine lv_iload_n hx hb dX10_unpack_2 rfl (lv_at hl 0 rfl) ?_
      refine lv_aload_n hx hb dX10_unpack_3 rfl (lv_at hl 1 rfl) ?_
      refine mg S hK hP (by omega) h114_1 fd_X10_7 rfl dX10_unpack_4 ?_
      refine lv_icmp_ge (tgt := 30) hx hb dX10_unpack_7 (by decide) (fun c_7 => ?_) (fun c_7 => ?_)
      · skip
        have c_7 := (nI_leI (by omega) (by omega)).mp c_7
        exact rMv S hr hlk hP hS ⟨(by have e : i = n := (by omega); subst e; exact h115_1), hfr_1⟩ dX10_unpack_30
      · skip
        have c_7 := (not_congr (nI_leI (by omega) (by omega))).mp c_7
        refine lv_aload_n hx hb dX10_unpack_10 rfl (lv_at hl 1 rfl) ?_
        refine mg S hK hP (by omega) h114_1 fd_X10_13 rfl dX10_unpack_11 ?_
        refine lv_iload_n hx hb dX10_unpack_14 rfl (lv_at hl 0 rfl) ?_
        refine lv_iload_n hx hb dX10_unpack_15 rfl (lv_at hl 2 rfl) ?_
        refine lv_iconst (v := nI (3)) hx hb dX10_unpack_16 (by decide) ?_
        refine lv_iload_n hx hb dX10_unpack_17 rfl (lv_at hl 0 rfl) ?_
        refine lv_imul hx hb dX10_unpack_18 ?_
        refine tpi (pk_mul 3 i) ?_
        refine lv_ishr hx hb dX10_unpack_19 ?_
        refine tpi (shrN (by omega) (by omega)) ?_
        refine lv_bipush (v := nI (7)) hx hb dX10_unpack_20 (by decide) ?_
        refine lv_iand hx hb dX10_unpack_22 ?_
        refine tpi (nx_and (v0 / 2 ^ (3 * i)) 7) ?_
        refine mias S hK hP hI hS (by omega) h115_1 (vp_in_nI (by omega) (by omega)) dX10_unpack_23 (fun g_2 H locs eg_2 hP hS => ?_)
        have h115_2 : g_2 115 = .inl (cy 1, 8, .inl (fun x9 => nI ((va_up (upk v0 P i) i ((v0 / 2 ^ (3 * i)) &&& 7)) x9))) := by rw [eg_2, va_up_self]; exact (arrN_up (by omega))
        have h114_2 : g_2 114 = mob ad (nI (n)) (nI (fa)) (nI (he)) (lN ov) (nI (un)) la bo (nI (tp)) ft (nI (wr0)) (nI (wa)) (nI (at0)) (nI (sp)) (nI (tk)) vl (nI (fi)) (nI (nm)) (nI (dp)) wy st (nI (aP)) (nI (aF)) (nI (aH)) (lN aO) (nI (ps)) (nI (mn)) go (nI (vi)) := ((congrFun eg_2 _).trans (va_up_ne _ _ (by omega))).trans h114_1
        have hfr_2 : ∀ j : Nat, j ≠ 115 → g_2 j = g j := fun j n0 => ((congrFun eg_2 _).trans (va_up_ne _ _ n0)).trans (hfr_1 j n0)
        refine lv_iinc (v := nI (i + 1)) (lv' := [(2, .int (nI (i + 1))), (0, .ref (ad 114)), (1, .int (nI (v0)))]) hx hb dX10_unpack_24 hl (k := 0) rfl (by exact nI_add i 1) (by decide) rfl (fun ls hl => ?_)
        refine lv_goto (tgt := 2) hx hb dX10_unpack_27 (by decide) ?_
        exact ih2 (i + 1) (by omega) (by omega) g_2 _ _ (by rw [upk_s] at h115_2; exact h115_2) hfr_2 hP hS _ (lv_sub hl [0, 1, 2] rfl)
  exact L2 ((n - 0) + 1) 0 (by omega) (Nat.lt_succ_self _) g _ _ (by rw [upk_0]; exact hP9) (fun j n0 => hfr j ) hP hS _ (lv_sub hl [0, 1, 2] rfl)
set_option maxHeartbeats 4000000 in
set_option maxRecDepth 100000 in
theorem c_X10_dancerAt (l : Launch) (D : va_G) (cy : Nat → ClassId) (ad : Nat → Nat) (N : Nat) (g : Nat → va_E) (hN : 145 ≤ N) (n : Nat) (fa : Nat) (he : Nat) (ov : Nat) (un : Nat) (la : Int32) (bo : Int32) (tp : Nat) (ft : Int32) (wr0 : Nat) (wa : Nat) (at0 : Nat) (sp : Nat) (tk : Nat) (vl : Int32) (fi : Nat) (nm : Nat) (dp : Nat) (wy : Int32) (st : Int32) (aP : Nat) (aF : Nat) (aH : Nat) (aO : Nat) (ps : Nat) (mn : Nat) (go : Int32) (vi : Nat) (hM : g 114 = mob ad (nI (n)) (nI (fa)) (nI (he)) (lN ov) (nI (un)) la bo (nI (tp)) ft (nI (wr0)) (nI (wa)) (nI (at0)) (nI (sp)) (nI (tk)) vl (nI (fi)) (nI (nm)) (nI (dp)) wy st (nI (aP)) (nI (aF)) (nI (aH)) (lN aO) (nI (ps)) (nI (mn)) go (nI (vi))) (hn4 : 4 ≤ n) (hn8 : n ≤ 8) (P : Nat → Nat) (hP9 : g 115 = .inl (cy 1, 8, .inl (fun x9 => nI (P x9)))) (da : Nat → Nat) (hpm : Perm n da P) (p0 : Nat) (hp0 : p0 < n) : Met l yX10_dancerAt (WS yX10_dancerAt cX10_dancerAt 3 (some .int)) (rmF 0 0) (PP [.ref (ad 114), .int (nI (p0))] D cy ad N g) (vp_Si (fun r => r = nI (da p0))) 0 0 (fun _ => False) := by
  refine mentry (by decide) (Nat.le_of_ble_eq_true rfl) (fun p e s m below meth c ls S hr hlk hnm hP hK hl => ?_)
  have S : CallFix p m c cX10_dancerAt 3 s _ wsL_law RX10 := S
  have hx := S.1
  have hb := S.2.1
  have hl : lv_has ls 3 [(0, .ref (ad 114)), (1, .int (nI (p0)))] := hl
  have hdp := hpm.1 p0 hp0
  refine lv_iconst (v := nI (0)) hx hb dX10_dancerAt_0 (by decide) ?_
  refine lv_istore_n (lv' := [(2, .int (nI (0))), (0, .ref (ad 114)), (1, .int (nI (p0)))]) hx hb dX10_dancerAt_1 rfl hl (by decide) rfl (fun ls hl => ?_)
  have L2 : ∀ (fu : Nat) (d : Nat), (d ≤ da p0) → (n - d) < fu → ∀ (ls : Array Slot), lv_has ls 3 [(2, .int (nI (d))), (0, .ref (ad 114)), (1, .int (nI (p0)))] → W p l e (rmF 0 0) s m [.ref (ad 114), .int (nI (p0))].toArray below meth c s.heap [] 0 0 (MQ below (vp_Si (fun r => r = nI (da p0))) [.ref (ad 114), .int (nI (p0))].toArray s 0 0 (fun _ => False)) (F0 m 2 ls []) := by
    intro fu
    induction fu with
    | zero => intro d hd hms ls hl; exact absurd hms (Nat.not_lt_zero _)
    | succ fu ih2 =>
      intro d hd hms ls hl
      refine lv_aload_n hx hb dX10_dancerAt_2 rfl (lv_at hl 1 rfl) ?_
      refine mg S hK hP (by omega) hM fd_X10_13 rfl dX10_dancerAt_3 ?_
      refine lv_iload_n hx hb dX10_dancerAt_6 rfl (lv_at hl 0 rfl) ?_
      refine mial S hK hP (by omega) hP9 (vp_in_nI (by omega) (by omega)) dX10_dancerAt_7 ?_
      refine tpi (congrArg ((fun x9 => nI (P x9))) (nI_clamp (by omega))) ?_
      have hPd := hpm.2.1 d (by omega)
      refine lv_iload_n hx hb dX10_dancerAt_8 rfl (lv_at hl 2 rfl) ?_
      refine lv_icmp_eq (tgt := 18) hx hb dX10_dancerAt_9 (by decide) (fun c_9 => ?_) (fun c_9 => ?_)
      · skip
        have c_9 := (nI_eq (by omega) (by omega)).mp c_9
        have e9 : d = da p0 := by rw [← c_9]; exact (hpm.2.2.1 d (by omega)).symm
        refine lv_iload_n hx hb dX10_dancerAt_18 rfl (lv_at hl 0 rfl) ?_
        exact rSi S hr hlk (congrArg nI e9) dX10_dancerAt_19
      · skip
        have c_9 := (not_congr (nI_eq (by omega) (by omega))).mp c_9
        have hne : d ≠ da p0 := fun e => c_9 (by rw [e]; exact hpm.2.2.2 p0 hp0)
        refine lv_iinc (v := nI (d + 1)) (lv' := [(2, .int (nI (d + 1))), (0, .ref (ad 114)), (1, .int (nI (p0)))]) hx hb dX10_dancerAt_12 hl (k := 0) rfl (by exact nI_add d 1) (by decide) rfl (fun ls hl => ?_)
        refine lv_goto (tgt := 2) hx hb dX10_dancerAt_15 (by decide) ?_
        exact ih2 (d + 1) (by omega) (by omega) _ (lv_sub hl [0, 1, 2] rfl)
  exact L2 ((n - 0) + 1) 0 (by omega) (Nat.lt_succ_self _) _ (lv_sub hl [0, 1, 2] rfl)
set_option maxHeartbeats 4000000 in
set_option maxRecDepth 100000 in
theorem c_X10_goRound (l : Launch) (D : va_G) (cy : Nat → ClassId) (ad : Nat → Nat) (N : Nat) (g : Nat → va_E) (hinj : ∀ i j : Nat, i < N → j < N → ad i = ad j → i = j) (hN : 145 ≤ N) (n : Nat) (fa : Nat) (he : Nat) (ov : Nat) (un : Nat) (la : Int32) (bo : Int32) (tp : Nat) (ft : Int32) (wr0 : Nat) (wa : Nat) (at0 : Nat) (sp : Nat) (tk : Nat) (vl : Int32) (fi : Nat) (nm : Nat) (dp : Nat) (wy : Int32) (st : Int32) (aP : Nat) (aF : Nat) (aH : Nat) (aO : Nat) (ps : Nat) (mn : Nat) (go : Int32) (vi : Nat) (hM : g 114 = mob ad (nI (n)) (nI (fa)) (nI (he)) (lN ov) (nI (un)) la bo (nI (tp)) ft (nI (wr0)) (nI (wa)) (nI (at0)) (nI (sp)) (nI (tk)) vl (nI (fi)) (nI (nm)) (nI (dp)) wy st (nI (aP)) (nI (aF)) (nI (aH)) (lN aO) (nI (ps)) (nI (mn)) go (nI (vi))) (hn4 : 4 ≤ n) (hn8 : n ≤ 8) (P : Nat → Nat) (hP9 : g 115 = .inl (cy 1, 8, .inl (fun x9 => nI (P x9)))) (da : Nat → Nat) (hpm : Perm n da P) (d0 : Nat) (hd0 : d0 < 16) : Met l yX10_goRound (WS yX10_goRound cX10_goRound 3 none) (rmF 0 0) (PP [.ref (ad 114), .int (nI (d0))] D cy ad N g) (QV (fun g1 => g1 115 = .inl (cy 1, 8, .inl (fun x9 => nI ((gor d0 n n P) x9))) ∧ (∀ j, j ≠ 115 → g1 j = g j)) D ad N) 0 0 (AA ad N) := by
  refine mentry (by decide) (Nat.le_of_ble_eq_true rfl) (fun p e s m below meth c ls S hr hlk hnm hP hK hl => ?_)
  have S : CallFix p m c cX10_goRound 3 s _ wsL_law RX10 := S
  have hx := S.1
  have hb := S.2.1
  have hl : lv_has ls 3 [(0, .ref (ad 114)), (1, .int (nI (d0)))] := hl
  have hI : MD (AA ad N) ad N := MD.in hinj
  have hS : va_S (AA ad N) s.heap s.heap [] := va_S.rf
  have hfr : ∀ j : Nat, g j = g j := fun _ => rfl
  refine lv_iconst (v := nI (0)) hx hb dX10_goRound_0 (by decide) ?_
  refine lv_istore_n (lv' := [(2, .int (nI (0))), (0, .ref (ad 114)), (1, .int (nI (d0)))]) hx hb dX10_goRound_1 rfl hl (by decide) rfl (fun ls hl => ?_)
  have L2 : ∀ (fu : Nat) (i : Nat), (i ≤ n) → (n - i) < fu → ∀ (g_1 : Nat → va_E) (H : Heap) (locs : List Loc), g_1 115 = .inl (cy 1, 8, .inl (fun x9 => nI ((gor d0 i n P) x9))) → (∀ j : Nat, j ≠ 115 → g_1 j = g j) → MM D ad N g_1 H → va_S (AA ad N) s.heap H locs → ∀ (ls : Array Slot), lv_has ls 3 [(2, .int (nI (i))), (0, .ref (ad 114)), (1, .int (nI (d0)))] → W p l e (rmF 0 0) s m [.ref (ad 114), .int (nI (d0))].toArray below meth c H locs 0 0 (MQ below (QV (fun g1 => g1 115 = .inl (cy 1, 8, .inl (fun x9 => nI ((gor d0 n n P) x9))) ∧ (∀ j, j ≠ 115 → g1 j = g j)) D ad N) [.ref (ad 114), .int (nI (d0))].toArray s 0 0 (AA ad N)) (F0 m 2 ls []) := by
    intro fu
    induction fu with
    | zero => intro i hi hms g_1 H locs h115_1 hfr_1 hP hS ls hl; exact absurd hms (Nat.not_lt_zero _)
    | succ fu ih2 =>
      intro i hi hms g_1 H locs h115_1 hfr_1 hP hS ls hl
      have h114_1 : g_1 114 = mob ad (nI (n)) (nI (fa)) (nI (he)) (lN ov) (nI (un)) la bo (nI (tp)) ft (nI (wr0)) (nI (wa)) (nI (at0)) (nI (sp)) (nI (tk)) vl (nI (fi)) (nI (nm)) (nI (dp)) wy st (nI (aP)) (nI (aF)) (nI (aH)) (lN aO) (nI (ps)) (nI (mn)) go (nI (vi)) := (hfr_1 114 (by omega)).trans hM
      refine lv_iload_n hx hb dX10_goRound_2 rfl (lv_at hl 0 rfl) ?_
      refine lv_aload_n hx hb dX10_goRound_3 rfl (lv_at hl 1 rfl) ?_
      refine mg S hK hP (by omega) h114_1 fd_X10_7 rfl dX10_goRound_4 ?_
      refine lv_icmp_ge (tgt := 35) hx hb dX10_goRound_7 (by decide) (fun c_7 => ?_) (fun c_7 => ?_)
      · skip
        have c_7 := (nI_leI (by omega) (by omega)).mp c_7
        exact rMv S hr hlk hP hS ⟨(by have e : i = n := (by omega); subst e; exact h115_1), hfr_1⟩ dX10_goRound_35
      · skip
        have c_7 := (not_congr (nI_leI (by omega) (by omega))).mp c_7
        refine lv_aload_n hx hb dX10_goRound_10 rfl (lv_at hl 1 rfl) ?_
        refine mg S hK hP (by omega) h114_1 fd_X10_13 rfl dX10_goRound_11 ?_
        refine lv_iload_n hx hb dX10_goRound_14 rfl (lv_at hl 0 rfl) ?_
        refine lv_aload_n hx hb dX10_goRound_15 rfl (lv_at hl 1 rfl) ?_
        refine mg S hK hP (by omega) h114_1 fd_X10_13 rfl dX10_goRound_16 ?_
        refine lv_iload_n hx hb dX10_goRound_19 rfl (lv_at hl 0 rfl) ?_
        refine mial S hK hP (by omega) h115_1 (vp_in_nI (by omega) (by omega)) dX10_goRound_20 ?_
        refine tpi (congrArg ((fun x9 => nI ((gor d0 i n P) x9))) (nI_clamp (by omega))) ?_
        refine tpi (congrArg nI (if_neg (Nat.lt_irrefl i))) ?_
        have hPi := hpm.2.1 i (by omega)
        refine lv_iload_n hx hb dX10_goRound_21 rfl (lv_at hl 2 rfl) ?_
        refine lv_iadd hx hb dX10_goRound_22 ?_
        refine tpi (nI_add (P i) d0) ?_
        refine lv_aload_n hx hb dX10_goRound_23 rfl (lv_at hl 1 rfl) ?_
        refine mg S hK hP (by omega) h114_1 fd_X10_7 rfl dX10_goRound_24 ?_
        refine lv_irem hx hb dX10_goRound_27 (fun h => by have h := (z_eq (by omega)).mp h; omega) ?_
        refine tpi (pk_rem (a := P i + d0) (by omega) (by omega) (by omega)) ?_
        refine mias S hK hP hI hS (by omega) h115_1 (vp_in_nI (by omega) (by omega)) dX10_goRound_28 (fun g_2 H locs eg_2 hP hS => ?_)
        have h115_2 : g_2 115 = .inl (cy 1, 8, .inl (fun x9 => nI ((va_up (gor d0 i n P) i ((P i + d0) % n)) x9))) := by rw [eg_2, va_up_self]; exact (arrN_up (by omega))
        have h114_2 : g_2 114 = mob ad (nI (n)) (nI (fa)) (nI (he)) (lN ov) (nI (un)) la bo (nI (tp)) ft (nI (wr0)) (nI (wa)) (nI (at0)) (nI (sp)) (nI (tk)) vl (nI (fi)) (nI (nm)) (nI (dp)) wy st (nI (aP)) (nI (aF)) (nI (aH)) (lN aO) (nI (ps)) (nI (mn)) go (nI (vi)) := ((congrFun eg_2 _).trans (va_up_ne _ _ (by omega))).trans h114_1
        have hfr_2 : ∀ j : Nat, j ≠ 115 → g_2 j = g j := fun j n0 => ((congrFun eg_2 _).trans (va_up_ne _ _ n0)).trans (hfr_1 j n0)
        refine lv_iinc (v := nI (i + 1)) (lv' := [(2, .int (nI (i + 1))), (0, .ref (ad 114)), (1, .int (nI (d0)))]) hx hb dX10_goRound_29 hl (k := 0) rfl (by exact nI_add i 1) (by decide) rfl (fun ls hl => ?_)
        refine lv_goto (tgt := 2) hx hb dX10_goRound_32 (by decide) ?_
        exact ih2 (i + 1) (by omega) (by omega) g_2 _ _ (by rw [gor_s] at h115_2; exact h115_2) hfr_2 hP hS _ (lv_sub hl [0, 1, 2] rfl)
  exact L2 ((n - 0) + 1) 0 (by omega) (Nat.lt_succ_self _) g _ _ (by rw [gor_0]; exact hP9) (fun j n0 => hfr j ) hP hS _ (lv_sub hl [0, 1, 2] rfl)
set_option maxHeartbeats 4000000 in
set_option maxRecDepth 100000 in
theorem c_X10_isAct (l : Launch) (D : va_G) (cy : Nat → ClassId) (ad : Nat → Nat) (N : Nat) (g : Nat → va_E) (s0 : Int32) (k0 : Int32) (n : Nat) (hn4 : 4 ≤ n) (hn8 : n ≤ 8) : Met l yX10_isAct (WS yX10_isAct cX10_isAct 3 (some .boolean)) (rmF 1 25) (PP [.int s0, .int k0, .int (nI (n))] D cy ad N g) (vp_Si (fun r => r = if ((0 ≤ s0 ∧ s0 ≤ 5) ∧ 0 ≤ k0 ∧ k0 < nI (if s0 = 3 then 8 else n)) then 1 else 0)) 0 0 (fun _ => False) := by
  refine mentry (by decide) (Nat.le_of_ble_eq_true rfl) (fun p e s m below meth c ls S hr hlk hnm hP hK hl => ?_)
  have S : CallFix p m c cX10_isAct 3 s _ wsL_law RX10 := S
  have hx := S.1
  have hb := S.2.1
  have hl : lv_has ls 3 [(0, .int s0), (1, .int k0), (2, .int (nI (n)))] := hl
  refine lv_iload_n hx hb dX10_isAct_0 rfl (lv_at hl 0 rfl) ?_
  refine lv_i2l hx hb dX10_isAct_1 rfl ?_
  refine lv_lconst (v := lN 0) hx hb dX10_isAct_2 (by decide) ?_
  refine lv_ldc2 hx hb S.2.2.2.1 (S.2.2.2.2 _ m_X10_157) dX10_isAct_3 ?_
  refine tpl (show (5 : Int64) = lN 5 from rfl) ?_
  refine kSi (As := [.long s0.toInt64, .long (lN 0), .long (lN 5)]) (rest := []) S hK hP (c_X10_in l D cy ad N g s0.toInt64 (lN 0) (lN 5)) cs_X10_115 ⟨rfl, rfl⟩ rfl hl.1 rfl (Nat.le_of_ble_eq_true rfl) ⟨Nat.zero_le _, Nat.zero_le _⟩ dX10_isAct_6 (fun r_6 q_6 => ?_)
  subst q_6
  refine tpi (ifC (in_45 (by omega) (by omega))) ?_
  refine lv_if_eq (tgt := 40) hx hb dX10_isAct_9 (by decide) (fun c_9 => ?_) (fun c_9 => ?_)
  · skip
    have c_9 := bz_eq.mp c_9
    refine lv_iconst (v := nI (0)) hx hb dX10_isAct_40 (by decide) ?_
    exact rSz S hr hlk (by first | exact Or.inl rfl | exact Or.inr rfl) (ifF (fun q => by first | exact c_9 ⟨Int32.not_lt.mpr q.1.1, Int32.not_lt.mpr q.1.2⟩ | exact c_33 ⟨Int32.not_lt.mpr q.2.1, by rw [hz9]; exact q.2.2⟩)) dX10_isAct_41
  · skip
    have c_9 := bz_ne.mp c_9
    refine lv_iload_n hx hb dX10_isAct_12 rfl (lv_at hl 1 rfl) ?_
    refine lv_i2l hx hb dX10_isAct_13 rfl ?_
    refine lv_lconst (v := lN 0) hx hb dX10_isAct_14 (by decide) ?_
    refine lv_iload_n hx hb dX10_isAct_15 rfl (lv_at hl 0 rfl) ?_
    refine lv_iconst (v := nI (3)) hx hb dX10_isAct_16 (by decide) ?_
    have J30 : ∀ (z9 : Nat), (z9 + 1 = if s0 = 3 then 8 else n) → (z9 < 8) → ∀ (ls : Array Slot), lv_has ls 3 [(0, .int s0), (1, .int k0), (2, .int (nI (n)))] → W p l e (rmF 1 25) s m [.int s0, .int k0, .int (nI (n))].toArray below meth c s.heap [] 0 0 (MQ below (vp_Si (fun r => r = if ((0 ≤ s0 ∧ s0 ≤ 5) ∧ 0 ≤ k0 ∧ k0 < nI (if s0 = 3 then 8 else n)) then 1 else 0)) [.int s0, .int k0, .int (nI (n))].toArray s 0 0 (fun _ => False)) (F0 m 30 ls [.long (lN z9), .long (lN 0), .long k0.toInt64]) := by
      intro z9 hz9 hz9b ls hl
      refine kSi (As := [.long k0.toInt64, .long (lN 0), .long (lN z9)]) (rest := []) S hK hP (c_X10_in l D cy ad N g k0.toInt64 (lN 0) (lN z9)) cs_X10_115 ⟨rfl, rfl⟩ rfl hl.1 rfl (Nat.le_of_ble_eq_true rfl) ⟨Nat.zero_le _, Nat.zero_le _⟩ dX10_isAct_30 (fun r_30 q_30 => ?_)
      subst q_30
      refine tpi (ifC (in_0 (n := z9 + 1) (by omega) (by omega))) ?_
      refine lv_if_eq (tgt := 40) hx hb dX10_isAct_33 (by decide) (fun c_33 => ?_) (fun c_33 => ?_)
      · skip
        have c_33 := bz_eq.mp c_33
        refine lv_iconst (v := nI (0)) hx hb dX10_isAct_40 (by decide) ?_
        exact rSz S hr hlk (by first | exact Or.inl rfl | exact Or.inr rfl) (ifF (fun q => by first | exact c_9 ⟨Int32.not_lt.mpr q.1.1, Int32.not_lt.mpr q.1.2⟩ | exact c_33 ⟨Int32.not_lt.mpr q.2.1, by rw [hz9]; exact q.2.2⟩)) dX10_isAct_41
      · skip
        have c_33 := bz_ne.mp c_33
        refine lv_iconst (v := nI (1)) hx hb dX10_isAct_36 (by decide) ?_
        refine lv_goto (tgt := 41) hx hb dX10_isAct_37 (by decide) ?_
        exact rSz S hr hlk (by first | exact Or.inl rfl | exact Or.inr rfl) (ifT ⟨⟨Int32.not_lt.mp c_9.1, Int32.not_lt.mp c_9.2⟩, Int32.not_lt.mp c_33.1, by rw [← hz9]; exact c_33.2⟩) dX10_isAct_41
    refine lv_icmp_ne (tgt := 26) hx hb dX10_isAct_17 (by decide) (fun c_17 => ?_) (fun c_17 => ?_)
    · skip
      refine lv_iload_n hx hb dX10_isAct_26 rfl (lv_at hl 2 rfl) ?_
      refine lv_iconst (v := nI (1)) hx hb dX10_isAct_27 (by decide) ?_
      refine lv_isub hx hb dX10_isAct_28 ?_
      refine tpi (pk_sub (a := n) (b := 1) (by omega)) ?_
      refine lv_i2l hx hb dX10_isAct_29 rfl ?_
      refine tpl (nI_l (by omega)) ?_
      exact J30 (n - 1) (by rw [if_neg (show ¬ s0 = 3 from c_17)]; omega) (by omega) _ (lv_sub hl [0, 1, 2] rfl)
    · skip
      refine lv_ldc2 hx hb S.2.2.2.1 (S.2.2.2.2 _ m_X10_159) dX10_isAct_20 ?_
      refine tpl (show (7 : Int64) = lN 7 from rfl) ?_
      refine lv_goto (tgt := 30) hx hb dX10_isAct_23 (by decide) ?_
      exact J30 7 (if_pos (show s0 = 3 from c_17)).symm (by omega) _ (lv_sub hl [0, 1, 2] rfl)
set_option maxHeartbeats 4000000 in
set_option maxRecDepth 100000 in
theorem c_X10_areBeside (l : Launch) (D : va_G) (cy : Nat → ClassId) (ad : Nat → Nat) (N : Nat) (g : Nat → va_E) (hN : 145 ≤ N) (n : Nat) (fa : Nat) (he : Nat) (ov : Nat) (un : Nat) (la : Int32) (bo : Int32) (tp : Nat) (ft : Int32) (wr0 : Nat) (wa : Nat) (at0 : Nat) (sp : Nat) (tk : Nat) (vl : Int32) (fi : Nat) (nm : Nat) (dp : Nat) (wy : Int32) (st : Int32) (aP : Nat) (aF : Nat) (aH : Nat) (aO : Nat) (ps : Nat) (mn : Nat) (go : Int32) (vi : Nat) (hM : g 114 = mob ad (nI (n)) (nI (fa)) (nI (he)) (lN ov) (nI (un)) la bo (nI (tp)) ft (nI (wr0)) (nI (wa)) (nI (at0)) (nI (sp)) (nI (tk)) vl (nI (fi)) (nI (nm)) (nI (dp)) wy st (nI (aP)) (nI (aF)) (nI (aH)) (lN aO) (nI (ps)) (nI (mn)) go (nI (vi))) (hn4 : 4 ≤ n) (hn8 : n ≤ 8) (P : Nat → Nat) (hP9 : g 115 = .inl (cy 1, 8, .inl (fun x9 => nI (P x9)))) (da : Nat → Nat) (hpm : Perm n da P) (i0 : Nat) (hi0 : i0 < n) : Met l yX10_areBeside (WS yX10_areBeside cX10_areBeside 3 (some .boolean)) (rmF 0 0) (PP [.ref (ad 114), .int (nI (i0))] D cy ad N g) (vp_Si (fun r => r = if (bsd n P i0 = true) then 1 else 0)) 0 0 (fun _ => False) := by
  refine mentry (by decide) (Nat.le_of_ble_eq_true rfl) (fun p e s m below meth c ls S hr hlk hnm hP hK hl => ?_)
  have S : CallFix p m c cX10_areBeside 3 s _ wsL_law RX10 := S
  have hx := S.1
  have hb := S.2.1
  have hl : lv_has ls 3 [(0, .ref (ad 114)), (1, .int (nI (i0)))] := hl
  have hq := nx_lt hn4 hi0
  have hpk9 := hpm.2.1 i0 hi0
  have hpq := hpm.2.1 _ hq
  have hsu := su_lt hpk9 hpq
  refine lv_aload_n hx hb dX10_areBeside_0 rfl (lv_at hl 0 rfl) ?_
  refine mg S hK hP (by omega) hM fd_X10_13 rfl dX10_areBeside_1 ?_
  refine lv_iload_n hx hb dX10_areBeside_4 rfl (lv_at hl 1 rfl) ?_
  refine lv_iconst (v := nI (1)) hx hb dX10_areBeside_5 (by decide) ?_
  refine lv_iadd hx hb dX10_areBeside_6 ?_
  refine tpi (nI_add i0 1) ?_
  refine lv_aload_n hx hb dX10_areBeside_7 rfl (lv_at hl 0 rfl) ?_
  refine mg S hK hP (by omega) hM fd_X10_7 rfl dX10_areBeside_8 ?_
  refine lv_irem hx hb dX10_areBeside_11 (fun h => by have h := (z_eq (by omega)).mp h; omega) ?_
  refine tpi (pk_rem (a := i0 + 1) (by omega) (by omega) (by omega)) ?_
  refine tpi (congrArg nI (nxm hi0)) ?_
  refine mial S hK hP (by omega) hP9 (vp_in_nI (by omega) (by omega)) dX10_areBeside_12 ?_
  refine tpi (congrArg ((fun x9 => nI (P x9))) (nI_clamp (by omega))) ?_
  refine lv_aload_n hx hb dX10_areBeside_13 rfl (lv_at hl 0 rfl) ?_
  refine mg S hK hP (by omega) hM fd_X10_13 rfl dX10_areBeside_14 ?_
  refine lv_iload_n hx hb dX10_areBeside_17 rfl (lv_at hl 1 rfl) ?_
  refine mial S hK hP (by omega) hP9 (vp_in_nI (by omega) (by omega)) dX10_areBeside_18 ?_
  refine tpi (congrArg ((fun x9 => nI (P x9))) (nI_clamp (by omega))) ?_
  refine lv_isub hx hb dX10_areBeside_19 ?_
  refine lv_aload_n hx hb dX10_areBeside_20 rfl (lv_at hl 0 rfl) ?_
  refine mg S hK hP (by omega) hM fd_X10_7 rfl dX10_areBeside_21 ?_
  refine lv_iadd hx hb dX10_areBeside_24 ?_
  refine tpi (sbn (by omega)) ?_
  refine lv_aload_n hx hb dX10_areBeside_25 rfl (lv_at hl 0 rfl) ?_
  refine mg S hK hP (by omega) hM fd_X10_7 rfl dX10_areBeside_26 ?_
  refine lv_irem hx hb dX10_areBeside_29 (fun h => by have h := (z_eq (by omega)).mp h; omega) ?_
  refine tpi (pk_rem (a := P (nx n i0) + n - P i0) (by omega) (by omega) (by omega)) ?_
  refine tpi (congrArg nI (sum_ hpk9 hpq)) ?_
  refine lv_istore_n (lv' := [(2, .int (nI (su n (P i0) (P (nx n i0))))), (0, .ref (ad 114)), (1, .int (nI (i0)))]) hx hb dX10_areBeside_30 rfl hl (by decide) rfl (fun ls hl => ?_)
  refine lv_iload_n hx hb dX10_areBeside_31 rfl (lv_at hl 0 rfl) ?_
  refine lv_iconst (v := nI (1)) hx hb dX10_areBeside_32 (by decide) ?_
  refine lv_icmp_eq (tgt := 46) hx hb dX10_areBeside_33 (by decide) (fun c_33 => ?_) (fun c_33 => ?_)
  · skip
    have c_33 := (nI_eq (by omega) (by omega)).mp c_33
    refine lv_iconst (v := nI (1)) hx hb dX10_areBeside_46 (by decide) ?_
    refine lv_goto (tgt := 51) hx hb dX10_areBeside_47 (by decide) ?_
    exact rSz S hr hlk (by first | exact Or.inl rfl | exact Or.inr rfl) (ifT (by unfold bsd; first | (rw [decide_eq_true c_33]; rfl) | (rw [decide_eq_true c_43, Bool.or_true]))) dX10_areBeside_51
  · skip
    have c_33 := (not_congr (nI_eq (by omega) (by omega))).mp c_33
    refine lv_iload_n hx hb dX10_areBeside_36 rfl (lv_at hl 0 rfl) ?_
    refine lv_aload_n hx hb dX10_areBeside_37 rfl (lv_at hl 1 rfl) ?_
    refine mg S hK hP (by omega) hM fd_X10_7 rfl dX10_areBeside_38 ?_
    refine lv_iconst (v := nI (1)) hx hb dX10_areBeside_41 (by decide) ?_
    refine lv_isub hx hb dX10_areBeside_42 ?_
    refine tpi (pk_sub (a := n) (b := 1) (by omega)) ?_
    refine lv_icmp_ne (tgt := 50) hx hb dX10_areBeside_43 (by decide) (fun c_43 => ?_) (fun c_43 => ?_)
    · skip
      have c_43 := (not_congr (nI_eq (by omega) (by omega))).mp c_43
      refine lv_iconst (v := nI (0)) hx hb dX10_areBeside_50 (by decide) ?_
      exact rSz S hr hlk (by first | exact Or.inl rfl | exact Or.inr rfl) (ifF (by unfold bsd; rw [decide_eq_false c_33, decide_eq_false c_43]; decide)) dX10_areBeside_51
    · skip
      have c_43 := (nI_eq (by omega) (by omega)).mp c_43
      refine lv_iconst (v := nI (1)) hx hb dX10_areBeside_46 (by decide) ?_
      refine lv_goto (tgt := 51) hx hb dX10_areBeside_47 (by decide) ?_
      exact rSz S hr hlk (by first | exact Or.inl rfl | exact Or.inr rfl) (ifT (by unfold bsd; first | (rw [decide_eq_true c_33]; rfl) | (rw [decide_eq_true c_43, Bool.or_true]))) dX10_areBeside_51

set_option maxHeartbeats 4000000 in
set_option maxRecDepth 100000 in
theorem c_X10_aboveOf (l : Launch) (D : va_G) (cy : Nat → ClassId) (ad : Nat → Nat) (N : Nat) (g : Nat → va_E) (hN : 145 ≤ N) (n : Nat) (fa : Nat) (he : Nat) (ov : Nat) (un : Nat) (la : Int32) (bo : Int32) (tp : Nat) (ft : Int32) (wr0 : Nat) (wa : Nat) (at0 : Nat) (sp : Nat) (tk : Nat) (vl : Int32) (fi : Nat) (nm : Nat) (dp : Nat) (wy : Int32) (st : Int32) (aP : Nat) (aF : Nat) (aH : Nat) (aO : Nat) (ps : Nat) (mn : Nat) (go : Int32) (vi : Nat) (hM : g 114 = mob ad (nI (n)) (nI (fa)) (nI (he)) (lN ov) (nI (un)) la bo (nI (tp)) ft (nI (wr0)) (nI (wa)) (nI (at0)) (nI (sp)) (nI (tk)) vl (nI (fi)) (nI (nm)) (nI (dp)) wy st (nI (aP)) (nI (aF)) (nI (aH)) (lN aO) (nI (ps)) (nI (mn)) go (nI (vi))) (hn4 : 4 ≤ n) (hn8 : n ≤ 8) (i0 : Nat) (hi0 : i0 < 8) : Met l yX10_aboveOf (WS yX10_aboveOf cX10_aboveOf 4 (some .int)) (rmF 1 22) (PP [.ref (ad 114), .int (nI (i0))] D cy ad N g) (vp_Si (fun r => r = nI (cnF (fun j => ov.testBit (8 * i0 + j)) n))) 0 0 (fun _ => False) := by
  refine mentry (by decide) (Nat.le_of_ble_eq_true rfl) (fun p e s m below meth c ls S hr hlk hnm hP hK hl => ?_)
  have S : CallFix p m c cX10_aboveOf 4 s _ wsL_law RX10 := S
  have hx := S.1
  have hb := S.2.1
  have hl : lv_has ls 4 [(0, .ref (ad 114)), (1, .int (nI (i0)))] := hl
  refine lv_iconst (v := nI (0)) hx hb dX10_aboveOf_0 (by decide) ?_
  refine lv_istore_n (lv' := [(2, .int (nI (0))), (0, .ref (ad 114)), (1, .int (nI (i0)))]) hx hb dX10_aboveOf_1 rfl hl (by decide) rfl (fun ls hl => ?_)
  refine lv_iconst (v := nI (0)) hx hb dX10_aboveOf_2 (by decide) ?_
  refine lv_istore_n (lv' := [(3, .int (nI (0))), (2, .int (nI (0))), (0, .ref (ad 114)), (1, .int (nI (i0)))]) hx hb dX10_aboveOf_3 rfl hl (by decide) rfl (fun ls hl => ?_)
  have L4 : ∀ (fu : Nat) (j v : Nat), (j ≤ n) → (v = cnF (fun j => ov.testBit (8 * i0 + j)) j) → (n - j) < fu → ∀ (ls : Array Slot), lv_has ls 4 [(3, .int (nI (j))), (2, .int (nI (v))), (0, .ref (ad 114)), (1, .int (nI (i0)))] → W p l e (rmF 1 22) s m [.ref (ad 114), .int (nI (i0))].toArray below meth c s.heap [] 0 0 (MQ below (vp_Si (fun r => r = nI (cnF (fun j => ov.testBit (8 * i0 + j)) n))) [.ref (ad 114), .int (nI (i0))].toArray s 0 0 (fun _ => False)) (F0 m 4 ls []) := by
    intro fu
    induction fu with
    | zero => intro j v hj hv hms ls hl; exact absurd hms (Nat.not_lt_zero _)
    | succ fu ih4 =>
      intro j v hj hv hms ls hl
      refine lv_iload_n hx hb dX10_aboveOf_4 rfl (lv_at hl 0 rfl) ?_
      refine lv_aload_n hx hb dX10_aboveOf_5 rfl (lv_at hl 2 rfl) ?_
      refine mg S hK hP (by omega) hM fd_X10_7 rfl dX10_aboveOf_6 ?_
      refine lv_icmp_ge (tgt := 35) hx hb dX10_aboveOf_9 (by decide) (fun c_9 => ?_) (fun c_9 => ?_)
      · skip
        have c_9 := (nI_leI (by omega) (by omega)).mp c_9
        refine lv_iload_n hx hb dX10_aboveOf_35 rfl (lv_at hl 1 rfl) ?_
        exact rSi S hr hlk (by have e : j = n := (by omega); rw [hv, e]) dX10_aboveOf_36
      · skip
        have c_9 := (not_congr (nI_leI (by omega) (by omega))).mp c_9
        refine lv_iload_n hx hb dX10_aboveOf_12 rfl (lv_at hl 1 rfl) ?_
        refine lv_aload_n hx hb dX10_aboveOf_13 rfl (lv_at hl 2 rfl) ?_
        refine lv_iload_n hx hb dX10_aboveOf_14 rfl (lv_at hl 3 rfl) ?_
        refine lv_iload_n hx hb dX10_aboveOf_15 rfl (lv_at hl 0 rfl) ?_
        refine kVi (As := [.int (nI (i0)), .int (nI (j))]) (rest := [.int (nI (v))]) S hK hP (c_X10_isOver l D cy ad N g (by omega) n fa he ov un la bo tp ft wr0 wa at0 sp tk vl fi nm dp wy st aP aF aH aO ps mn go vi hM i0 (by omega) j (by omega)) cv_X10_129 (by omega) hM ⟨_, _, rfl⟩ ⟨rfl, rfl⟩ rfl hl.1 rfl (Nat.le_of_ble_eq_true rfl) ⟨Nat.zero_le _, Nat.zero_le _⟩ dX10_aboveOf_16 (fun r_16 q_16 => ?_)
        subst q_16
        have J27 : ∀ (z9 : Nat), (v + z9 = cnF (fun j => ov.testBit (8 * i0 + j)) (j + 1)) → ∀ (ls : Array Slot), lv_has ls 4 [(3, .int (nI (j))), (2, .int (nI (v))), (0, .ref (ad 114)), (1, .int (nI (i0)))] → W p l e (rmF 1 22) s m [.ref (ad 114), .int (nI (i0))].toArray below meth c s.heap [] 0 0 (MQ below (vp_Si (fun r => r = nI (cnF (fun j => ov.testBit (8 * i0 + j)) n))) [.ref (ad 114), .int (nI (i0))].toArray s 0 0 (fun _ => False)) (F0 m 27 ls [.int (nI (z9)), .int (nI (v))]) := by
          intro z9 hz9 ls hl
          refine lv_iadd hx hb dX10_aboveOf_27 ?_
          refine tpi (nI_add v z9) ?_
          refine lv_istore_n (lv' := [(2, .int (nI (v + z9))), (3, .int (nI (j))), (0, .ref (ad 114)), (1, .int (nI (i0)))]) hx hb dX10_aboveOf_28 rfl hl (by decide) rfl (fun ls hl => ?_)
          refine lv_iinc (v := nI (j + 1)) (lv' := [(3, .int (nI (j + 1))), (2, .int (nI (v + z9))), (0, .ref (ad 114)), (1, .int (nI (i0)))]) hx hb dX10_aboveOf_29 hl (k := 1) rfl (by exact nI_add j 1) (by decide) rfl (fun ls hl => ?_)
          refine lv_goto (tgt := 4) hx hb dX10_aboveOf_32 (by decide) ?_
          exact ih4 (j + 1) (v + z9) (by omega) hz9 (by omega) _ (lv_sub hl [0, 1, 2, 3] rfl)
        refine lv_if_eq (tgt := 26) hx hb dX10_aboveOf_19 (by decide) (fun c_19 => ?_) (fun c_19 => ?_)
        · skip
          have c_19 := bz_eq.mp c_19
          refine lv_iconst (v := nI (0)) hx hb dX10_aboveOf_26 (by decide) ?_
          exact J27 0 (by rw [hv]; exact cnF_f (f := (fun j => ov.testBit (8 * i0 + j))) c_19) _ (lv_sub hl [0, 1, 2, 3] rfl)
        · skip
          have c_19 := bz_ne.mp c_19
          refine lv_iconst (v := nI (1)) hx hb dX10_aboveOf_22 (by decide) ?_
          refine lv_goto (tgt := 27) hx hb dX10_aboveOf_23 (by decide) ?_
          exact J27 1 (by rw [hv]; exact cnF_t (f := (fun j => ov.testBit (8 * i0 + j))) c_19) _ (lv_sub hl [0, 1, 2, 3] rfl)
  exact L4 ((n - 0) + 1) 0 0 (by omega) rfl (Nat.lt_succ_self _) _ (lv_sub hl [0, 1, 2, 3] rfl)
set_option maxHeartbeats 4000000 in
set_option maxRecDepth 100000 in
theorem c_X10_belowOf (l : Launch) (D : va_G) (cy : Nat → ClassId) (ad : Nat → Nat) (N : Nat) (g : Nat → va_E) (hN : 145 ≤ N) (n : Nat) (fa : Nat) (he : Nat) (ov : Nat) (un : Nat) (la : Int32) (bo : Int32) (tp : Nat) (ft : Int32) (wr0 : Nat) (wa : Nat) (at0 : Nat) (sp : Nat) (tk : Nat) (vl : Int32) (fi : Nat) (nm : Nat) (dp : Nat) (wy : Int32) (st : Int32) (aP : Nat) (aF : Nat) (aH : Nat) (aO : Nat) (ps : Nat) (mn : Nat) (go : Int32) (vi : Nat) (hM : g 114 = mob ad (nI (n)) (nI (fa)) (nI (he)) (lN ov) (nI (un)) la bo (nI (tp)) ft (nI (wr0)) (nI (wa)) (nI (at0)) (nI (sp)) (nI (tk)) vl (nI (fi)) (nI (nm)) (nI (dp)) wy st (nI (aP)) (nI (aF)) (nI (aH)) (lN aO) (nI (ps)) (nI (mn)) go (nI (vi))) (hn4 : 4 ≤ n) (hn8 : n ≤ 8) (i0 : Nat) (hi0 : i0 < 8) : Met l yX10_belowOf (WS yX10_belowOf cX10_belowOf 4 (some .int)) (rmF 1 22) (PP [.ref (ad 114), .int (nI (i0))] D cy ad N g) (vp_Si (fun r => r = nI (cnF (fun j => ov.testBit (8 * j + i0)) n))) 0 0 (fun _ => False) := by
  refine mentry (by decide) (Nat.le_of_ble_eq_true rfl) (fun p e s m below meth c ls S hr hlk hnm hP hK hl => ?_)
  have S : CallFix p m c cX10_belowOf 4 s _ wsL_law RX10 := S
  have hx := S.1
  have hb := S.2.1
  have hl : lv_has ls 4 [(0, .ref (ad 114)), (1, .int (nI (i0)))] := hl
  refine lv_iconst (v := nI (0)) hx hb dX10_belowOf_0 (by decide) ?_
  refine lv_istore_n (lv' := [(2, .int (nI (0))), (0, .ref (ad 114)), (1, .int (nI (i0)))]) hx hb dX10_belowOf_1 rfl hl (by decide) rfl (fun ls hl => ?_)
  refine lv_iconst (v := nI (0)) hx hb dX10_belowOf_2 (by decide) ?_
  refine lv_istore_n (lv' := [(3, .int (nI (0))), (2, .int (nI (0))), (0, .ref (ad 114)), (1, .int (nI (i0)))]) hx hb dX10_belowOf_3 rfl hl (by decide) rfl (fun ls hl => ?_)
  have L4 : ∀ (fu : Nat) (j v : Nat), (j ≤ n) → (v = cnF (fun j => ov.testBit (8 * j + i0)) j) → (n - j) < fu → ∀ (ls : Array Slot), lv_has ls 4 [(3, .int (nI (j))), (2, .int (nI (v))), (0, .ref (ad 114)), (1, .int (nI (i0)))] → W p l e (rmF 1 22) s m [.ref (ad 114), .int (nI (i0))].toArray below meth c s.heap [] 0 0 (MQ below (vp_Si (fun r => r = nI (cnF (fun j => ov.testBit (8 * j + i0)) n))) [.ref (ad 114), .int (nI (i0))].toArray s 0 0 (fun _ => False)) (F0 m 4 ls []) := by
    intro fu
    induction fu with
    | zero => intro j v hj hv hms ls hl; exact absurd hms (Nat.not_lt_zero _)
    | succ fu ih4 =>
      intro j v hj hv hms ls hl
      refine lv_iload_n hx hb dX10_belowOf_4 rfl (lv_at hl 0 rfl) ?_
      refine lv_aload_n hx hb dX10_belowOf_5 rfl (lv_at hl 2 rfl) ?_
      refine mg S hK hP (by omega) hM fd_X10_7 rfl dX10_belowOf_6 ?_
      refine lv_icmp_ge (tgt := 35) hx hb dX10_belowOf_9 (by decide) (fun c_9 => ?_) (fun c_9 => ?_)
      · skip
        have c_9 := (nI_leI (by omega) (by omega)).mp c_9
        refine lv_iload_n hx hb dX10_belowOf_35 rfl (lv_at hl 1 rfl) ?_
        exact rSi S hr hlk (by have e : j = n := (by omega); rw [hv, e]) dX10_belowOf_36
      · skip
        have c_9 := (not_congr (nI_leI (by omega) (by omega))).mp c_9
        refine lv_iload_n hx hb dX10_belowOf_12 rfl (lv_at hl 1 rfl) ?_
        refine lv_aload_n hx hb dX10_belowOf_13 rfl (lv_at hl 2 rfl) ?_
        refine lv_iload_n hx hb dX10_belowOf_14 rfl (lv_at hl 0 rfl) ?_
        refine lv_iload_n hx hb dX10_belowOf_15 rfl (lv_at hl 3 rfl) ?_
        refine kVi (As := [.int (nI (j)), .int (nI (i0))]) (rest := [.int (nI (v))]) S hK hP (c_X10_isOver l D cy ad N g (by omega) n fa he ov un la bo tp ft wr0 wa at0 sp tk vl fi nm dp wy st aP aF aH aO ps mn go vi hM j (by omega) i0 (by omega)) cv_X10_129 (by omega) hM ⟨_, _, rfl⟩ ⟨rfl, rfl⟩ rfl hl.1 rfl (Nat.le_of_ble_eq_true rfl) ⟨Nat.zero_le _, Nat.zero_le _⟩ dX10_belowOf_16 (fun r_16 q_16 => ?_)
        subst q_16
        have J27 : ∀ (z9 : Nat), (v + z9 = cnF (fun j => ov.testBit (8 * j + i0)) (j + 1)) → ∀ (ls : Array Slot), lv_has ls 4 [(3, .int (nI (j))), (2, .int (nI (v))), (0, .ref (ad 114)), (1, .int (nI (i0)))] → W p l e (rmF 1 22) s m [.ref (ad 114), .int (nI (i0))].toArray below meth c s.heap [] 0 0 (MQ below (vp_Si (fun r => r = nI (cnF (fun j => ov.testBit (8 * j + i0)) n))) [.ref (ad 114), .int (nI (i0))].toArray s 0 0 (fun _ => False)) (F0 m 27 ls [.int (nI (z9)), .int (nI (v))]) := by
          intro z9 hz9 ls hl
          refine lv_iadd hx hb dX10_belowOf_27 ?_
          refine tpi (nI_add v z9) ?_
          refine lv_istore_n (lv' := [(2, .int (nI (v + z9))), (3, .int (nI (j))), (0, .ref (ad 114)), (1, .int (nI (i0)))]) hx hb dX10_belowOf_28 rfl hl (by decide) rfl (fun ls hl => ?_)
          refine lv_iinc (v := nI (j + 1)) (lv' := [(3, .int (nI (j + 1))), (2, .int (nI (v + z9))), (0, .ref (ad 114)), (1, .int (nI (i0)))]) hx hb dX10_belowOf_29 hl (k := 1) rfl (by exact nI_add j 1) (by decide) rfl (fun ls hl => ?_)
          refine lv_goto (tgt := 4) hx hb dX10_belowOf_32 (by decide) ?_
          exact ih4 (j + 1) (v + z9) (by omega) hz9 (by omega) _ (lv_sub hl [0, 1, 2, 3] rfl)
        refine lv_if_eq (tgt := 26) hx hb dX10_belowOf_19 (by decide) (fun c_19 => ?_) (fun c_19 => ?_)
        · skip
          have c_19 := bz_eq.mp c_19
          refine lv_iconst (v := nI (0)) hx hb dX10_belowOf_26 (by decide) ?_
          exact J27 0 (by rw [hv]; exact cnF_f (f := (fun j => ov.testBit (8 * j + i0))) c_19) _ (lv_sub hl [0, 1, 2, 3] rfl)
        · skip
          have c_19 := bz_ne.mp c_19
          refine lv_iconst (v := nI (1)) hx hb dX10_belowOf_22 (by decide) ?_
          refine lv_goto (tgt := 27) hx hb dX10_belowOf_23 (by decide) ?_
          exact J27 1 (by rw [hv]; exact cnF_t (f := (fun j => ov.testBit (8 * j + i0))) c_19) _ (lv_sub hl [0, 1, 2, 3] rfl)
  exact L4 ((n - 0) + 1) 0 0 (by omega) rfl (Nat.lt_succ_self _) _ (lv_sub hl [0, 1, 2, 3] rfl)
set_option maxHeartbeats 4000000 in
set_option maxRecDepth 100000 in
theorem c_X10_sizeOf (l : Launch) (D : va_G) (cy : Nat → ClassId) (ad : Nat → Nat) (N : Nat) (g : Nat → va_E) (v0 : Nat) : Met l yX10_sizeOf (WS yX10_sizeOf cX10_sizeOf 4 (some .int)) (rmF 0 0) (PP [.long (lN v0)] D cy ad N g) (vp_Si (fun r => r = nI (cnF (fun j => v0.testBit j) 64))) 0 0 (fun _ => False) := by
  refine mentry (by decide) (Nat.le_of_ble_eq_true rfl) (fun p e s m below meth c ls S hr hlk hnm hP hK hl => ?_)
  have S : CallFix p m c cX10_sizeOf 4 s _ wsL_law RX10 := S
  have hx := S.1
  have hb := S.2.1
  have hl : lv_has ls 4 [(0, .long (lN v0))] := hl
  refine lv_iconst (v := nI (0)) hx hb dX10_sizeOf_0 (by decide) ?_
  refine lv_istore_n (lv' := [(2, .int (nI (0))), (0, .long (lN v0))]) hx hb dX10_sizeOf_1 rfl hl (by decide) rfl (fun ls hl => ?_)
  refine lv_iconst (v := nI (0)) hx hb dX10_sizeOf_2 (by decide) ?_
  refine lv_istore_n (lv' := [(3, .int (nI (0))), (2, .int (nI (0))), (0, .long (lN v0))]) hx hb dX10_sizeOf_3 rfl hl (by decide) rfl (fun ls hl => ?_)
  have L4 : ∀ (fu : Nat) (j v : Nat), (j ≤ 64) → (v = cnF (fun j => v0.testBit j) j) → (64 - j) < fu → ∀ (ls : Array Slot), lv_has ls 4 [(3, .int (nI (j))), (2, .int (nI (v))), (0, .long (lN v0))] → W p l e (rmF 0 0) s m [.long (lN v0)].toArray below meth c s.heap [] 0 0 (MQ below (vp_Si (fun r => r = nI (cnF (fun j => v0.testBit j) 64))) [.long (lN v0)].toArray s 0 0 (fun _ => False)) (F0 m 4 ls []) := by
    intro fu
    induction fu with
    | zero => intro j v hj hv hms ls hl; exact absurd hms (Nat.not_lt_zero _)
    | succ fu ih4 =>
      intro j v hj hv hms ls hl
      refine lv_iload_n hx hb dX10_sizeOf_4 rfl (lv_at hl 0 rfl) ?_
      refine lv_bipush (v := nI (64)) hx hb dX10_sizeOf_5 (by decide) ?_
      refine lv_icmp_ge (tgt := 25) hx hb dX10_sizeOf_7 (by decide) (fun c_7 => ?_) (fun c_7 => ?_)
      · skip
        have c_7 := (nI_leI (by omega) (by omega)).mp c_7
        refine lv_iload_n hx hb dX10_sizeOf_25 rfl (lv_at hl 1 rfl) ?_
        exact rSi S hr hlk (by have e : j = 64 := (by omega); rw [hv, e]) dX10_sizeOf_26
      · skip
        have c_7 := (not_congr (nI_leI (by omega) (by omega))).mp c_7
        refine lv_iload_n hx hb dX10_sizeOf_10 rfl (lv_at hl 1 rfl) ?_
        refine lv_lload_n hx hb dX10_sizeOf_11 rfl (lv_at hl 2 rfl) ?_
        refine lv_iload_n hx hb dX10_sizeOf_12 rfl (lv_at hl 0 rfl) ?_
        refine lv_lshr hx hb dX10_sizeOf_13 rfl ?_
        refine lv_l2i hx hb dX10_sizeOf_14 rfl ?_
        refine lv_iconst (v := nI (1)) hx hb dX10_sizeOf_15 (by decide) ?_
        refine lv_iand hx hb dX10_sizeOf_16 ?_
        refine tpi (sar1i (by omega)) ?_
        refine lv_iadd hx hb dX10_sizeOf_17 ?_
        refine tpi (nI_add v (v0 / 2 ^ j % 2)) ?_
        refine lv_istore_n (lv' := [(2, .int (nI (v + (v0 / 2 ^ j % 2)))), (3, .int (nI (j))), (0, .long (lN v0))]) hx hb dX10_sizeOf_18 rfl hl (by decide) rfl (fun ls hl => ?_)
        refine lv_iinc (v := nI (j + 1)) (lv' := [(3, .int (nI (j + 1))), (2, .int (nI (v + (v0 / 2 ^ j % 2)))), (0, .long (lN v0))]) hx hb dX10_sizeOf_19 hl (k := 1) rfl (by exact nI_add j 1) (by decide) rfl (fun ls hl => ?_)
        refine lv_goto (tgt := 4) hx hb dX10_sizeOf_22 (by decide) ?_
        exact ih4 (j + 1) (v + (v0 / 2 ^ j % 2)) (by omega) (by rw [hv]; exact cnF_d v0 j) (by omega) _ (lv_sub hl [0, 1, 2] rfl)
  exact L4 ((64 - 0) + 1) 0 0 (by omega) rfl (Nat.lt_succ_self _) _ (lv_sub hl [0, 1, 2] rfl)
set_option maxHeartbeats 4000000 in
set_option maxRecDepth 100000 in
theorem c_X10_over (l : Launch) (D : va_G) (cy : Nat → ClassId) (ad : Nat → Nat) (N : Nat) (g : Nat → va_E) (hN : 145 ≤ N) (w : WT) (un : Nat) (la : Int32) (bo : Int32) (tp : Nat) (ft : Int32) (wr0 : Nat) (wa : Nat) (at0 : Nat) (sp : Nat) (tk : Nat) (vl : Int32) (fi : Nat) (nm : Nat) (dp : Nat) (wy : Int32) (st : Int32) (aP : Nat) (aF : Nat) (aH : Nat) (aO : Nat) (ps : Nat) (mn : Nat) (go : Int32) (vi : Nat) (hM : g 114 = mob ad (nI (wn w)) (nI (wf w)) (nI (wh w)) (lN (wo w)) (nI (un)) la bo (nI (tp)) ft (nI (wr0)) (nI (wa)) (nI (at0)) (nI (sp)) (nI (tk)) vl (nI (fi)) (nI (nm)) (nI (dp)) wy st (nI (aP)) (nI (aF)) (nI (aH)) (lN aO) (nI (ps)) (nI (mn)) go (nI (vi))) (P : Nat → Nat) (hP9 : g 115 = .inl (cy 1, 8, .inl (fun x9 => nI (P x9)))) (hw : WOK w) (hPw : ∀ i, i < wn w → P i = wp w i) (x0 : Int32) (y0 : Int32) : Met l yX10_over (WS yX10_over cX10_over 3 (some .int)) (rmF 1 25) (PP [.ref (ad 114), .int x0, .int y0] D cy ad N g) (vp_Si (fun r => r = ovA w x0 y0)) 0 0 (fun _ => False) := by
  refine mentry (by decide) (Nat.le_of_ble_eq_true rfl) (fun p e s m below meth c ls S hr hlk hnm hP hK hl => ?_)
  have S : CallFix p m c cX10_over 3 s _ wsL_law RX10 := S
  have hx := S.1
  have hb := S.2.1
  have hl : lv_has ls 3 [(0, .ref (ad 114)), (1, .int x0), (2, .int y0)] := hl
  have hn4 := hw.1.1
  have hn8 := hw.1.2
  have hpm := perm_P hw hPw
  have hf := lt256 hw.2.2.1 hn8
  have hh := lt256 hw.2.2.2.1 hn8
  have ho := hw.2.2.2.2.1
  refine lv_iload_n hx hb dX10_over_0 rfl (lv_at hl 1 rfl) ?_
  refine lv_i2l hx hb dX10_over_1 rfl ?_
  refine lv_lconst (v := lN 0) hx hb dX10_over_2 (by decide) ?_
  refine lv_aload_n hx hb dX10_over_3 rfl (lv_at hl 0 rfl) ?_
  refine mg S hK hP (by omega) hM fd_X10_7 rfl dX10_over_4 ?_
  refine lv_iconst (v := nI (1)) hx hb dX10_over_7 (by decide) ?_
  refine lv_isub hx hb dX10_over_8 ?_
  refine tpi (pk_sub (a := wn w) (b := 1) (by omega)) ?_
  refine lv_i2l hx hb dX10_over_9 rfl ?_
  refine tpl (nI_l (by omega)) ?_
  refine kSi (As := [.long x0.toInt64, .long (lN 0), .long (lN (wn w - 1))]) (rest := []) S hK hP (c_X10_in l D cy ad N g x0.toInt64 (lN 0) (lN (wn w - 1))) cs_X10_115 ⟨rfl, rfl⟩ rfl hl.1 rfl (Nat.le_of_ble_eq_true rfl) ⟨Nat.zero_le _, Nat.zero_le _⟩ dX10_over_10 (fun r_10 q_10 => ?_)
  subst q_10
  refine tpi (ifC (in_0 (by omega) (by omega))) ?_
  refine lv_if_eq (tgt := 37) hx hb dX10_over_13 (by decide) (fun c_13 => ?_) (fun c_13 => ?_)
  · skip
    have c_13 := bz_eq.mp c_13
    refine lv_iconst (v := (-1)) hx hb dX10_over_37 (by decide) ?_
    exact rSi S hr hlk (ovA_b (fun q => by first | exact c_13 q.1 | exact c_29 q.2.1 | exact q.2.2 (congrArg nI c_34))).symm dX10_over_38
  · skip
    have c_13 := bz_ne.mp c_13
    obtain ⟨i0, hi0b, rfl⟩ := isI_nat (by omega) c_13
    have hJ := c_13
    have hi031 : i0 < 2 ^ 31 := by omega
    refine lv_iload_n hx hb dX10_over_16 rfl (lv_at hl 2 rfl) ?_
    refine lv_i2l hx hb dX10_over_17 rfl ?_
    refine lv_lconst (v := lN 0) hx hb dX10_over_18 (by decide) ?_
    refine lv_aload_n hx hb dX10_over_19 rfl (lv_at hl 0 rfl) ?_
    refine mg S hK hP (by omega) hM fd_X10_7 rfl dX10_over_20 ?_
    refine lv_iconst (v := nI (1)) hx hb dX10_over_23 (by decide) ?_
    refine lv_isub hx hb dX10_over_24 ?_
    refine tpi (pk_sub (a := wn w) (b := 1) (by omega)) ?_
    refine lv_i2l hx hb dX10_over_25 rfl ?_
    refine tpl (nI_l (by omega)) ?_
    refine kSi (As := [.long y0.toInt64, .long (lN 0), .long (lN (wn w - 1))]) (rest := []) S hK hP (c_X10_in l D cy ad N g y0.toInt64 (lN 0) (lN (wn w - 1))) cs_X10_115 ⟨rfl, rfl⟩ rfl hl.1 rfl (Nat.le_of_ble_eq_true rfl) ⟨Nat.zero_le _, Nat.zero_le _⟩ dX10_over_26 (fun r_26 q_26 => ?_)
    subst q_26
    refine tpi (ifC (in_0 (by omega) (by omega))) ?_
    refine lv_if_eq (tgt := 37) hx hb dX10_over_29 (by decide) (fun c_29 => ?_) (fun c_29 => ?_)
    · skip
      have c_29 := bz_eq.mp c_29
      refine lv_iconst (v := (-1)) hx hb dX10_over_37 (by decide) ?_
      exact rSi S hr hlk (ovA_b (fun q => by first | exact c_13 q.1 | exact c_29 q.2.1 | exact q.2.2 (congrArg nI c_34))).symm dX10_over_38
    · skip
      have c_29 := bz_ne.mp c_29
      obtain ⟨j0, hj0b, rfl⟩ := isI_nat (by omega) c_29
      have hJ := c_29
      have hj031 : j0 < 2 ^ 31 := by omega
      refine lv_iload_n hx hb dX10_over_32 rfl (lv_at hl 1 rfl) ?_
      refine lv_iload_n hx hb dX10_over_33 rfl (lv_at hl 2 rfl) ?_
      refine lv_icmp_ne (tgt := 39) hx hb dX10_over_34 (by decide) (fun c_34 => ?_) (fun c_34 => ?_)
      · skip
        have c_34 := (not_congr (nI_eq (by omega) (by omega))).mp c_34
        refine lv_aload_n hx hb dX10_over_39 rfl (lv_at hl 0 rfl) ?_
        refine lv_iload_n hx hb dX10_over_40 rfl (lv_at hl 1 rfl) ?_
        refine lv_iload_n hx hb dX10_over_41 rfl (lv_at hl 2 rfl) ?_
        refine kVi (As := [.int (nI (i0)), .int (nI (j0))]) (rest := []) S hK hP (c_X10_isOver l D cy ad N g (by omega) (wn w) (wf w) (wh w) (wo w) un la bo tp ft wr0 wa at0 sp tk vl fi nm dp wy st aP aF aH aO ps mn go vi hM i0 (by omega) j0 (by omega)) cv_X10_129 (by omega) hM ⟨_, _, rfl⟩ ⟨rfl, rfl⟩ rfl hl.1 rfl (Nat.le_of_ble_eq_true rfl) ⟨Nat.zero_le _, Nat.zero_le _⟩ dX10_over_42 (fun r_42 q_42 => ?_)
        subst q_42
        refine lv_if_eq (tgt := 52) hx hb dX10_over_45 (by decide) (fun c_45 => ?_) (fun c_45 => ?_)
        · skip
          have c_45 := bz_eq.mp c_45
          refine lv_aload_n hx hb dX10_over_52 rfl (lv_at hl 0 rfl) ?_
          refine lv_iload_n hx hb dX10_over_53 rfl (lv_at hl 2 rfl) ?_
          refine lv_iload_n hx hb dX10_over_54 rfl (lv_at hl 1 rfl) ?_
          refine kVi (As := [.int (nI (j0)), .int (nI (i0))]) (rest := []) S hK hP (c_X10_isOver l D cy ad N g (by omega) (wn w) (wf w) (wh w) (wo w) un la bo tp ft wr0 wa at0 sp tk vl fi nm dp wy st aP aF aH aO ps mn go vi hM j0 (by omega) i0 (by omega)) cv_X10_129 (by omega) hM ⟨_, _, rfl⟩ ⟨rfl, rfl⟩ rfl hl.1 rfl (Nat.le_of_ble_eq_true rfl) ⟨Nat.zero_le _, Nat.zero_le _⟩ dX10_over_55 (fun r_55 q_55 => ?_)
          subst q_55
          refine lv_if_eq (tgt := 65) hx hb dX10_over_58 (by decide) (fun c_58 => ?_) (fun c_58 => ?_)
          · skip
            have c_58 := bz_eq.mp c_58
            refine lv_bipush (v := (-4)) hx hb dX10_over_65 (by decide) ?_
            exact rSi S hr hlk (by rw [ovA_y hn8 hi0b hj0b c_34, if_neg c_45, if_neg c_58]) dX10_over_67
          · skip
            have c_58 := bz_ne.mp c_58
            refine lv_iconst (v := nI (0)) hx hb dX10_over_61 (by decide) ?_
            refine lv_goto (tgt := 67) hx hb dX10_over_62 (by decide) ?_
            exact rSi S hr hlk (by rw [ovA_y hn8 hi0b hj0b c_34, if_neg c_45, if_pos c_58]; rfl) dX10_over_67
        · skip
          have c_45 := bz_ne.mp c_45
          refine lv_iconst (v := nI (1)) hx hb dX10_over_48 (by decide) ?_
          refine lv_goto (tgt := 67) hx hb dX10_over_49 (by decide) ?_
          exact rSi S hr hlk (by rw [ovA_y hn8 hi0b hj0b c_34, if_pos c_45]; rfl) dX10_over_67
      · skip
        have c_34 := (nI_eq (by omega) (by omega)).mp c_34
        refine lv_iconst (v := (-1)) hx hb dX10_over_37 (by decide) ?_
        exact rSi S hr hlk (ovA_b (fun q => by first | exact c_13 q.1 | exact c_29 q.2.1 | exact q.2.2 (congrArg nI c_34))).symm dX10_over_38
set_option maxHeartbeats 4000000 in
set_option maxRecDepth 100000 in
theorem c_X10_isLock (l : Launch) (D : va_G) (cy : Nat → ClassId) (ad : Nat → Nat) (N : Nat) (g : Nat → va_E) (hN : 145 ≤ N) (w : WT) (un : Nat) (la : Int32) (bo : Int32) (tp : Nat) (ft : Int32) (wr0 : Nat) (wa : Nat) (at0 : Nat) (sp : Nat) (tk : Nat) (vl : Int32) (fi : Nat) (nm : Nat) (dp : Nat) (wy : Int32) (st : Int32) (aP : Nat) (aF : Nat) (aH : Nat) (aO : Nat) (ps : Nat) (mn : Nat) (go : Int32) (vi : Nat) (hM : g 114 = mob ad (nI (wn w)) (nI (wf w)) (nI (wh w)) (lN (wo w)) (nI (un)) la bo (nI (tp)) ft (nI (wr0)) (nI (wa)) (nI (at0)) (nI (sp)) (nI (tk)) vl (nI (fi)) (nI (nm)) (nI (dp)) wy st (nI (aP)) (nI (aF)) (nI (aH)) (lN aO) (nI (ps)) (nI (mn)) go (nI (vi))) (P : Nat → Nat) (hP9 : g 115 = .inl (cy 1, 8, .inl (fun x9 => nI (P x9)))) (hw : WOK w) (hPw : ∀ i, i < wn w → P i = wp w i) : Met l yX10_isLock (WS yX10_isLock cX10_isLock 3 (some .boolean)) (rmF 2 45) (PP [.ref (ad 114)] D cy ad N g) (vp_Si (fun r => r = if (wh w = 2 ^ wn w - 1 ∧ ∀ j, j < wn w → wo w / 2 ^ (8 * j) % 256 ≠ 0 ∧ tab (wn w) (wo w) j ≠ 0) then 1 else 0)) 0 0 (fun _ => False) := by
  refine mentry (by decide) (Nat.le_of_ble_eq_true rfl) (fun p e s m below meth c ls S hr hlk hnm hP hK hl => ?_)
  have S : CallFix p m c cX10_isLock 3 s _ wsL_law RX10 := S
  have hx := S.1
  have hb := S.2.1
  have hl : lv_has ls 3 [(0, .ref (ad 114))] := hl
  have hn4 := hw.1.1
  have hn8 := hw.1.2
  have hpm := perm_P hw hPw
  have hf := lt256 hw.2.2.1 hn8
  have hh := lt256 hw.2.2.2.1 hn8
  have ho := hw.2.2.2.2.1
  have hz8 : 2 ^ wn w ≤ 256 := Nat.pow_le_pow_right (n := 2) (by omega) hn8
  have hz7 : 1 ≤ 2 ^ wn w := Nat.one_le_two_pow
  refine lv_aload_n hx hb dX10_isLock_0 rfl (lv_at hl 0 rfl) ?_
  refine mg S hK hP (by omega) hM fd_X10_20 rfl dX10_isLock_1 ?_
  refine lv_iconst (v := nI (1)) hx hb dX10_isLock_4 (by decide) ?_
  refine lv_aload_n hx hb dX10_isLock_5 rfl (lv_at hl 0 rfl) ?_
  refine mg S hK hP (by omega) hM fd_X10_7 rfl dX10_isLock_6 ?_
  refine lv_ishl hx hb dX10_isLock_9 ?_
  refine tpi (shlN 1 (by omega)) ?_
  refine tpi (by rw [Nat.one_mul]) ?_
  refine lv_iconst (v := nI (1)) hx hb dX10_isLock_10 (by decide) ?_
  refine lv_isub hx hb dX10_isLock_11 ?_
  refine tpi (pk_sub (a := 2 ^ wn w) (b := 1) (by omega)) ?_
  have J20 : ∀ (z0 : Nat), ((z0 = 1 ∧ (wh w = 2 ^ wn w - 1 ∧ ∀ j, j < 0 → wo w / 2 ^ (8 * j) % 256 ≠ 0 ∧ tab (wn w) (wo w) j ≠ 0)) ∨ (z0 = 0 ∧ ¬ (wh w = 2 ^ wn w - 1 ∧ ∀ j, j < 0 → wo w / 2 ^ (8 * j) % 256 ≠ 0 ∧ tab (wn w) (wo w) j ≠ 0))) → ∀ (ls : Array Slot), lv_has ls 3 [(0, .ref (ad 114))] → W p l e (rmF 2 45) s m [.ref (ad 114)].toArray below meth c s.heap [] 0 0 (MQ below (vp_Si (fun r => r = if (wh w = 2 ^ wn w - 1 ∧ ∀ j, j < wn w → wo w / 2 ^ (8 * j) % 256 ≠ 0 ∧ tab (wn w) (wo w) j ≠ 0) then 1 else 0)) [.ref (ad 114)].toArray s 0 0 (fun _ => False)) (F0 m 20 ls [.int (nI (z0))]) := by
    intro z0 hz0 ls hl
    refine lv_istore_n (lv' := [(1, .int (nI (z0))), (0, .ref (ad 114))]) hx hb dX10_isLock_20 rfl hl (by decide) rfl (fun ls hl => ?_)
    refine lv_iconst (v := nI (0)) hx hb dX10_isLock_21 (by decide) ?_
    refine lv_istore_n (lv' := [(2, .int (nI (0))), (1, .int (nI (z0))), (0, .ref (ad 114))]) hx hb dX10_isLock_22 rfl hl (by decide) rfl (fun ls hl => ?_)
    have L23 : ∀ (fu : Nat) (i z1 : Nat), (i ≤ wn w) → ((z1 = 1 ∧ (wh w = 2 ^ wn w - 1 ∧ ∀ j, j < i → wo w / 2 ^ (8 * j) % 256 ≠ 0 ∧ tab (wn w) (wo w) j ≠ 0)) ∨ (z1 = 0 ∧ ¬ (wh w = 2 ^ wn w - 1 ∧ ∀ j, j < i → wo w / 2 ^ (8 * j) % 256 ≠ 0 ∧ tab (wn w) (wo w) j ≠ 0))) → (wn w - i) < fu → ∀ (ls : Array Slot), lv_has ls 3 [(2, .int (nI (i))), (1, .int (nI (z1))), (0, .ref (ad 114))] → W p l e (rmF 2 45) s m [.ref (ad 114)].toArray below meth c s.heap [] 0 0 (MQ below (vp_Si (fun r => r = if (wh w = 2 ^ wn w - 1 ∧ ∀ j, j < wn w → wo w / 2 ^ (8 * j) % 256 ≠ 0 ∧ tab (wn w) (wo w) j ≠ 0) then 1 else 0)) [.ref (ad 114)].toArray s 0 0 (fun _ => False)) (F0 m 23 ls []) := by
      intro fu
      induction fu with
      | zero => intro i z1 hi hz1 hms ls hl; exact absurd hms (Nat.not_lt_zero _)
      | succ fu ih23 =>
        intro i z1 hi hz1 hms ls hl
        refine lv_iload_n hx hb dX10_isLock_23 rfl (lv_at hl 0 rfl) ?_
        refine lv_aload_n hx hb dX10_isLock_24 rfl (lv_at hl 2 rfl) ?_
        refine mg S hK hP (by omega) hM fd_X10_7 rfl dX10_isLock_25 ?_
        refine lv_icmp_ge (tgt := 63) hx hb dX10_isLock_28 (by decide) (fun c_28 => ?_) (fun c_28 => ?_)
        · skip
          have c_28 := (nI_leI (by omega) (by omega)).mp c_28
          refine lv_iload_n hx hb dX10_isLock_63 rfl (lv_at hl 1 rfl) ?_
          exact rSz S hr hlk (by rcases hz1 with q | q <;> rw [q.1]; exact Or.inr rfl; exact Or.inl rfl) (by have e : i = wn w := (by omega); rw [e] at hz1; rcases hz1 with q | q; (rw [q.1, if_pos q.2]; rfl); (rw [q.1, if_neg q.2]; rfl)) dX10_isLock_64
        · skip
          have c_28 := (not_congr (nI_leI (by omega) (by omega))).mp c_28
          have J56 : ∀ (z2 : Nat), ((z2 = 1 ∧ (wh w = 2 ^ wn w - 1 ∧ ∀ j, j < (i + 1) → wo w / 2 ^ (8 * j) % 256 ≠ 0 ∧ tab (wn w) (wo w) j ≠ 0)) ∨ (z2 = 0 ∧ ¬ (wh w = 2 ^ wn w - 1 ∧ ∀ j, j < (i + 1) → wo w / 2 ^ (8 * j) % 256 ≠ 0 ∧ tab (wn w) (wo w) j ≠ 0))) → ∀ (ls : Array Slot), lv_has ls 3 [(2, .int (nI (i))), (1, .int (nI (z1))), (0, .ref (ad 114))] → W p l e (rmF 2 45) s m [.ref (ad 114)].toArray below meth c s.heap [] 0 0 (MQ below (vp_Si (fun r => r = if (wh w = 2 ^ wn w - 1 ∧ ∀ j, j < wn w → wo w / 2 ^ (8 * j) % 256 ≠ 0 ∧ tab (wn w) (wo w) j ≠ 0) then 1 else 0)) [.ref (ad 114)].toArray s 0 0 (fun _ => False)) (F0 m 56 ls [.int (nI (z2))]) := by
            intro z2 hz2 ls hl
            refine lv_istore_n (lv' := [(1, .int (nI (z2))), (2, .int (nI (i))), (0, .ref (ad 114))]) hx hb dX10_isLock_56 rfl hl (by decide) rfl (fun ls hl => ?_)
            refine lv_iinc (v := nI (i + 1)) (lv' := [(2, .int (nI (i + 1))), (1, .int (nI (z2))), (0, .ref (ad 114))]) hx hb dX10_isLock_57 hl (k := 1) rfl (by exact nI_add i 1) (by decide) rfl (fun ls hl => ?_)
            refine lv_goto (tgt := 23) hx hb dX10_isLock_60 (by decide) ?_
            exact ih23 (i + 1) z2 (by omega) hz2 (by omega) _ (lv_sub hl [0, 1, 2] rfl)
          have hzz := and1_le hz1
          refine lv_iload_n hx hb dX10_isLock_31 rfl (lv_at hl 1 rfl) ?_
          refine lv_if_eq (tgt := 55) hx hb dX10_isLock_32 (by decide) (fun c_32 => ?_) (fun c_32 => ?_)
          · skip
            have c_32 := (z_eq (by omega)).mp c_32
            refine lv_iconst (v := nI (0)) hx hb dX10_isLock_55 (by decide) ?_
            exact J56 0 (and1_n (fun q => by first | exact and1_q hz1 c_32 ⟨q.1, fun j hj => q.2 j (by omega)⟩ | (rw [abo_cn hn8 hw.2.2.2.2] at c_40; exact (q.2 i (by omega)).1 ((bcN_0 _ (Nat.mod_lt _ (by decide))).mp c_40)) | (rw [bel_cn hn8] at c_48; exact (q.2 i (by omega)).2 ((bcN_0 _ (tab_lt hn8)).mp c_48)))) _ (lv_sub hl [0, 1, 2] rfl)
          · skip
            have c_32 := (not_congr (z_eq (by omega))).mp c_32
            refine lv_aload_n hx hb dX10_isLock_35 rfl (lv_at hl 2 rfl) ?_
            refine lv_iload_n hx hb dX10_isLock_36 rfl (lv_at hl 0 rfl) ?_
            refine kVi (As := [.int (nI (i))]) (rest := []) S hK hP (c_X10_aboveOf l D cy ad N g (by omega) (wn w) (wf w) (wh w) (wo w) un la bo tp ft wr0 wa at0 sp tk vl fi nm dp wy st aP aF aH aO ps mn go vi hM hn4 hn8 i (by omega)) cv_X10_198 (by omega) hM ⟨_, _, rfl⟩ ⟨rfl, rfl⟩ rfl hl.1 rfl (Nat.le_of_ble_eq_true rfl) ⟨Nat.zero_le _, Nat.zero_le _⟩ dX10_isLock_37 (fun r_37 q_37 => ?_)
            subst q_37
            have hc1 := cnF_le (fun j => (wo w).testBit (8 * i + j)) (wn w)
            refine lv_if_le (tgt := 55) hx hb dX10_isLock_40 (by decide) (fun c_40 => ?_) (fun c_40 => ?_)
            · skip
              have c_40 := (z_le (by omega)).mp c_40
              refine lv_iconst (v := nI (0)) hx hb dX10_isLock_55 (by decide) ?_
              exact J56 0 (and1_n (fun q => by first | exact and1_q hz1 c_32 ⟨q.1, fun j hj => q.2 j (by omega)⟩ | (rw [abo_cn hn8 hw.2.2.2.2] at c_40; exact (q.2 i (by omega)).1 ((bcN_0 _ (Nat.mod_lt _ (by decide))).mp c_40)) | (rw [bel_cn hn8] at c_48; exact (q.2 i (by omega)).2 ((bcN_0 _ (tab_lt hn8)).mp c_48)))) _ (lv_sub hl [0, 1, 2] rfl)
            · skip
              have c_40 := (not_congr (z_le (by omega))).mp c_40
              refine lv_aload_n hx hb dX10_isLock_43 rfl (lv_at hl 2 rfl) ?_
              refine lv_iload_n hx hb dX10_isLock_44 rfl (lv_at hl 0 rfl) ?_
              refine kVi (As := [.int (nI (i))]) (rest := []) S hK hP (c_X10_belowOf l D cy ad N g (by omega) (wn w) (wf w) (wh w) (wo w) un la bo tp ft wr0 wa at0 sp tk vl fi nm dp wy st aP aF aH aO ps mn go vi hM hn4 hn8 i (by omega)) cv_X10_201 (by omega) hM ⟨_, _, rfl⟩ ⟨rfl, rfl⟩ rfl hl.1 rfl (Nat.le_of_ble_eq_true rfl) ⟨Nat.zero_le _, Nat.zero_le _⟩ dX10_isLock_45 (fun r_45 q_45 => ?_)
              subst q_45
              have hc2 := cnF_le (fun j => (wo w).testBit (8 * j + i)) (wn w)
              refine lv_if_le (tgt := 55) hx hb dX10_isLock_48 (by decide) (fun c_48 => ?_) (fun c_48 => ?_)
              · skip
                have c_48 := (z_le (by omega)).mp c_48
                refine lv_iconst (v := nI (0)) hx hb dX10_isLock_55 (by decide) ?_
                exact J56 0 (and1_n (fun q => by first | exact and1_q hz1 c_32 ⟨q.1, fun j hj => q.2 j (by omega)⟩ | (rw [abo_cn hn8 hw.2.2.2.2] at c_40; exact (q.2 i (by omega)).1 ((bcN_0 _ (Nat.mod_lt _ (by decide))).mp c_40)) | (rw [bel_cn hn8] at c_48; exact (q.2 i (by omega)).2 ((bcN_0 _ (tab_lt hn8)).mp c_48)))) _ (lv_sub hl [0, 1, 2] rfl)
              · skip
                have c_48 := (not_congr (z_le (by omega))).mp c_48
                refine lv_iconst (v := nI (1)) hx hb dX10_isLock_51 (by decide) ?_
                refine lv_goto (tgt := 56) hx hb dX10_isLock_52 (by decide) ?_
                exact J56 1 (and1_y hz1 c_32 (fun q => ⟨q.1, lt_sn q.2 ⟨fun z => c_40 (by rw [abo_cn hn8 hw.2.2.2.2]; exact (bcN_0 _ (Nat.mod_lt _ (by decide))).mpr z), fun z => c_48 (by rw [bel_cn hn8]; exact (bcN_0 _ (tab_lt hn8)).mpr z)⟩⟩)) _ (lv_sub hl [0, 1, 2] rfl)
    exact L23 ((wn w - 0) + 1) 0 z0 (by omega) hz0 (Nat.lt_succ_self _) _ (lv_sub hl [0, 1, 2] rfl)
  refine lv_icmp_ne (tgt := 19) hx hb dX10_isLock_12 (by decide) (fun c_12 => ?_) (fun c_12 => ?_)
  · skip
    have c_12 := (not_congr (nI_eq (by omega) (by omega))).mp c_12
    refine lv_iconst (v := nI (0)) hx hb dX10_isLock_19 (by decide) ?_
    exact J20 0 (and1_n (fun q => c_12 q.1)) _ (lv_sub hl [0] rfl)
  · skip
    have c_12 := (nI_eq (by omega) (by omega)).mp c_12
    refine lv_iconst (v := nI (1)) hx hb dX10_isLock_15 (by decide) ?_
    refine lv_goto (tgt := 20) hx hb dX10_isLock_16 (by decide) ?_
    exact J20 1 (Or.inl ⟨rfl, c_12, fun j hj => absurd hj (Nat.not_lt_zero _)⟩) _ (lv_sub hl [0] rfl)
set_option maxHeartbeats 4000000 in
set_option maxRecDepth 100000 in
theorem c_X10_star (l : Launch) (D : va_G) (cy : Nat → ClassId) (ad : Nat → Nat) (N : Nat) (g : Nat → va_E) (hN : 145 ≤ N) (w : WT) (un : Nat) (la : Int32) (bo : Int32) (tp : Nat) (ft : Int32) (wr0 : Nat) (wa : Nat) (at0 : Nat) (sp : Nat) (tk : Nat) (vl : Int32) (fi : Nat) (nm : Nat) (dp : Nat) (wy : Int32) (st : Int32) (aP : Nat) (aF : Nat) (aH : Nat) (aO : Nat) (ps : Nat) (mn : Nat) (go : Int32) (vi : Nat) (hM : g 114 = mob ad (nI (wn w)) (nI (wf w)) (nI (wh w)) (lN (wo w)) (nI (un)) la bo (nI (tp)) ft (nI (wr0)) (nI (wa)) (nI (at0)) (nI (sp)) (nI (tk)) vl (nI (fi)) (nI (nm)) (nI (dp)) wy st (nI (aP)) (nI (aF)) (nI (aH)) (lN aO) (nI (ps)) (nI (mn)) go (nI (vi))) (P : Nat → Nat) (hP9 : g 115 = .inl (cy 1, 8, .inl (fun x9 => nI (P x9)))) (hw : WOK w) (hPw : ∀ i, i < wn w → P i = wp w i) : Met l yX10_star (WS yX10_star cX10_star 4 (some .int)) (rmF 1 25) (PP [.ref (ad 114)] D cy ad N g) (vp_Si (fun r => r = stA w)) 0 0 (fun _ => False) := by
  refine mentry (by decide) (Nat.le_of_ble_eq_true rfl) (fun p e s m below meth c ls S hr hlk hnm hP hK hl => ?_)
  have S : CallFix p m c cX10_star 4 s _ wsL_law RX10 := S
  have hx := S.1
  have hb := S.2.1
  have hl : lv_has ls 4 [(0, .ref (ad 114))] := hl
  have hn4 := hw.1.1
  have hn8 := hw.1.2
  have hpm := perm_P hw hPw
  have hf := lt256 hw.2.2.1 hn8
  have hh := lt256 hw.2.2.2.1 hn8
  have ho := hw.2.2.2.2.1
  have hp0 := hw.2.1.2.1 0 (by omega)
  have hp1 := hw.2.1.2.1 1 (by omega)
  have hsu := su_lt hp0 hp1
  refine lv_aload_n hx hb dX10_star_0 rfl (lv_at hl 0 rfl) ?_
  refine mg S hK hP (by omega) hM fd_X10_13 rfl dX10_star_1 ?_
  refine lv_iconst (v := nI (1)) hx hb dX10_star_4 (by decide) ?_
  refine mial S hK hP (by omega) hP9 (vp_in_nI (by omega) (by omega)) dX10_star_5 ?_
  refine tpi (congrArg ((fun x9 => nI (P x9))) (nI_clamp (by omega))) ?_
  refine tpi (congrArg nI (hPw 1 (by omega))) ?_
  refine lv_aload_n hx hb dX10_star_6 rfl (lv_at hl 0 rfl) ?_
  refine mg S hK hP (by omega) hM fd_X10_13 rfl dX10_star_7 ?_
  refine lv_iconst (v := nI (0)) hx hb dX10_star_10 (by decide) ?_
  refine mial S hK hP (by omega) hP9 (vp_in_nI (by omega) (by omega)) dX10_star_11 ?_
  refine tpi (congrArg ((fun x9 => nI (P x9))) (nI_clamp (by omega))) ?_
  refine tpi (congrArg nI (hPw 0 (by omega))) ?_
  refine lv_isub hx hb dX10_star_12 ?_
  refine lv_aload_n hx hb dX10_star_13 rfl (lv_at hl 0 rfl) ?_
  refine mg S hK hP (by omega) hM fd_X10_7 rfl dX10_star_14 ?_
  refine lv_iadd hx hb dX10_star_17 ?_
  refine tpi (sbn (by omega)) ?_
  refine lv_aload_n hx hb dX10_star_18 rfl (lv_at hl 0 rfl) ?_
  refine mg S hK hP (by omega) hM fd_X10_7 rfl dX10_star_19 ?_
  refine lv_irem hx hb dX10_star_22 (fun h => by have h := (z_eq (by omega)).mp h; omega) ?_
  refine tpi (pk_rem (a := wp w 1 + wn w - wp w 0) (by omega) (by omega) (by omega)) ?_
  refine tpi (congrArg nI (sum_ hp0 hp1)) ?_
  refine lv_istore_n (lv' := [(1, .int (nI (su (wn w) (wp w 0) (wp w 1)))), (0, .ref (ad 114))]) hx hb dX10_star_23 rfl hl (by decide) rfl (fun ls hl => ?_)
  refine lv_iload_n hx hb dX10_star_24 rfl (lv_at hl 0 rfl) ?_
  refine lv_i2l hx hb dX10_star_25 rfl ?_
  refine tpl (nI_l (by omega)) ?_
  refine lv_ldc2 hx hb S.2.2.2.1 (S.2.2.2.2 _ m_X10_204) dX10_star_26 ?_
  refine tpl (show (2 : Int64) = lN 2 from rfl) ?_
  refine lv_aload_n hx hb dX10_star_29 rfl (lv_at hl 1 rfl) ?_
  refine mg S hK hP (by omega) hM fd_X10_7 rfl dX10_star_30 ?_
  refine lv_iconst (v := nI (2)) hx hb dX10_star_33 (by decide) ?_
  refine lv_isub hx hb dX10_star_34 ?_
  refine tpi (pk_sub (a := wn w) (b := 2) (by omega)) ?_
  refine lv_i2l hx hb dX10_star_35 rfl ?_
  refine tpl (nI_l (by omega)) ?_
  refine kSi (As := [.long (lN (su (wn w) (wp w 0) (wp w 1))), .long (lN 2), .long (lN (wn w - 2))]) (rest := []) S hK hP (c_X10_in l D cy ad N g (lN (su (wn w) (wp w 0) (wp w 1))) (lN 2) (lN (wn w - 2))) cs_X10_115 ⟨rfl, rfl⟩ rfl hl.1 rfl (Nat.le_of_ble_eq_true rfl) ⟨Nat.zero_le _, Nat.zero_le _⟩ dX10_star_36 (fun r_36 q_36 => ?_)
  subst q_36
  refine tpi (ifC (in_nn (by omega) (by omega) (by omega))) ?_
  obtain ⟨z0, e0, hz0⟩ : ∃ z0, (if (2 ≤ su (wn w) (wp w 0) (wp w 1) ∧ su (wn w) (wp w 0) (wp w 1) ≤ wn w - 2) then (1 : Int32) else 0) = nI z0 ∧ ((z0 = 1 ∧ ((2 ≤ su (wn w) (wp w 0) (wp w 1) ∧ su (wn w) (wp w 0) (wp w 1) ≤ wn w - 2) ∧ ∀ j, j < 0 → su (wn w) (wp w j) (wp w (nx (wn w) j)) = su (wn w) (wp w 0) (wp w 1))) ∨ (z0 = 0 ∧ ¬ ((2 ≤ su (wn w) (wp w 0) (wp w 1) ∧ su (wn w) (wp w 0) (wp w 1) ≤ wn w - 2) ∧ ∀ j, j < 0 → su (wn w) (wp w j) (wp w (nx (wn w) j)) = su (wn w) (wp w 0) (wp w 1)))) := by by_cases q : (2 ≤ su (wn w) (wp w 0) (wp w 1) ∧ su (wn w) (wp w 0) (wp w 1) ≤ wn w - 2); exact ⟨1, if_pos q, Or.inl ⟨rfl, q, fun j hj => absurd hj (Nat.not_lt_zero _)⟩⟩; exact ⟨0, if_neg q, Or.inr ⟨rfl, fun z => q z.1⟩⟩
  refine tpi e0 ?_
  refine lv_istore_n (lv' := [(2, .int (nI (z0))), (1, .int (nI (su (wn w) (wp w 0) (wp w 1)))), (0, .ref (ad 114))]) hx hb dX10_star_39 rfl hl (by decide) rfl (fun ls hl => ?_)
  refine lv_iconst (v := nI (0)) hx hb dX10_star_40 (by decide) ?_
  refine lv_istore_n (lv' := [(3, .int (nI (0))), (2, .int (nI (z0))), (1, .int (nI (su (wn w) (wp w 0) (wp w 1)))), (0, .ref (ad 114))]) hx hb dX10_star_41 rfl hl (by decide) rfl (fun ls hl => ?_)
  have L42 : ∀ (fu : Nat) (i z1 : Nat), (i ≤ wn w) → ((z1 = 1 ∧ ((2 ≤ su (wn w) (wp w 0) (wp w 1) ∧ su (wn w) (wp w 0) (wp w 1) ≤ wn w - 2) ∧ ∀ j, j < i → su (wn w) (wp w j) (wp w (nx (wn w) j)) = su (wn w) (wp w 0) (wp w 1))) ∨ (z1 = 0 ∧ ¬ ((2 ≤ su (wn w) (wp w 0) (wp w 1) ∧ su (wn w) (wp w 0) (wp w 1) ≤ wn w - 2) ∧ ∀ j, j < i → su (wn w) (wp w j) (wp w (nx (wn w) j)) = su (wn w) (wp w 0) (wp w 1)))) → (wn w - i) < fu → ∀ (ls : Array Slot), lv_has ls 4 [(3, .int (nI (i))), (2, .int (nI (z1))), (1, .int (nI (su (wn w) (wp w 0) (wp w 1)))), (0, .ref (ad 114))] → W p l e (rmF 1 25) s m [.ref (ad 114)].toArray below meth c s.heap [] 0 0 (MQ below (vp_Si (fun r => r = stA w)) [.ref (ad 114)].toArray s 0 0 (fun _ => False)) (F0 m 42 ls []) := by
    intro fu
    induction fu with
    | zero => intro i z1 hi hz1 hms ls hl; exact absurd hms (Nat.not_lt_zero _)
    | succ fu ih42 =>
      intro i z1 hi hz1 hms ls hl
      refine lv_iload_n hx hb dX10_star_42 rfl (lv_at hl 0 rfl) ?_
      refine lv_aload_n hx hb dX10_star_43 rfl (lv_at hl 3 rfl) ?_
      refine mg S hK hP (by omega) hM fd_X10_7 rfl dX10_star_44 ?_
      refine lv_icmp_ge (tgt := 100) hx hb dX10_star_47 (by decide) (fun c_47 => ?_) (fun c_47 => ?_)
      · skip
        have c_47 := (nI_leI (by omega) (by omega)).mp c_47
        refine lv_iload_n hx hb dX10_star_100 rfl (lv_at hl 1 rfl) ?_
        have hzz := and1_le hz1
        have e9 : i = wn w := by omega
        rw [e9] at hz1
        refine lv_if_eq (tgt := 108) hx hb dX10_star_101 (by decide) (fun c_101 => ?_) (fun c_101 => ?_)
        · skip
          have c_101 := (z_eq (by omega)).mp c_101
          refine lv_bipush (v := (-4)) hx hb dX10_star_108 (by decide) ?_
          exact rSi S hr hlk (by have q := and1_q hz1 c_101; unfold stA; rw [if_neg (fun z => q ⟨⟨z.1, z.2.1⟩, z.2.2⟩)]) dX10_star_110
        · skip
          have c_101 := (not_congr (z_eq (by omega))).mp c_101
          refine lv_iload_n hx hb dX10_star_104 rfl (lv_at hl 2 rfl) ?_
          refine lv_goto (tgt := 110) hx hb dX10_star_105 (by decide) ?_
          exact rSi S hr hlk (by have q := and1_p hz1 c_101; unfold stA; rw [if_pos ⟨q.1.1, q.1.2, q.2⟩]) dX10_star_110
      · skip
        have c_47 := (not_congr (nI_leI (by omega) (by omega))).mp c_47
        have J93 : ∀ (z2 : Nat), ((z2 = 1 ∧ ((2 ≤ su (wn w) (wp w 0) (wp w 1) ∧ su (wn w) (wp w 0) (wp w 1) ≤ wn w - 2) ∧ ∀ j, j < (i + 1) → su (wn w) (wp w j) (wp w (nx (wn w) j)) = su (wn w) (wp w 0) (wp w 1))) ∨ (z2 = 0 ∧ ¬ ((2 ≤ su (wn w) (wp w 0) (wp w 1) ∧ su (wn w) (wp w 0) (wp w 1) ≤ wn w - 2) ∧ ∀ j, j < (i + 1) → su (wn w) (wp w j) (wp w (nx (wn w) j)) = su (wn w) (wp w 0) (wp w 1)))) → ∀ (ls : Array Slot), lv_has ls 4 [(3, .int (nI (i))), (2, .int (nI (z1))), (1, .int (nI (su (wn w) (wp w 0) (wp w 1)))), (0, .ref (ad 114))] → W p l e (rmF 1 25) s m [.ref (ad 114)].toArray below meth c s.heap [] 0 0 (MQ below (vp_Si (fun r => r = stA w)) [.ref (ad 114)].toArray s 0 0 (fun _ => False)) (F0 m 93 ls [.int (nI (z2))]) := by
          intro z2 hz2 ls hl
          refine lv_istore_n (lv' := [(2, .int (nI (z2))), (3, .int (nI (i))), (1, .int (nI (su (wn w) (wp w 0) (wp w 1)))), (0, .ref (ad 114))]) hx hb dX10_star_93 rfl hl (by decide) rfl (fun ls hl => ?_)
          refine lv_iinc (v := nI (i + 1)) (lv' := [(3, .int (nI (i + 1))), (2, .int (nI (z2))), (1, .int (nI (su (wn w) (wp w 0) (wp w 1)))), (0, .ref (ad 114))]) hx hb dX10_star_94 hl (k := 1) rfl (by exact nI_add i 1) (by decide) rfl (fun ls hl => ?_)
          refine lv_goto (tgt := 42) hx hb dX10_star_97 (by decide) ?_
          exact ih42 (i + 1) z2 (by omega) hz2 (by omega) _ (lv_sub hl [0, 1, 2, 3] rfl)
        have hzz := and1_le hz1
        refine lv_iload_n hx hb dX10_star_50 rfl (lv_at hl 1 rfl) ?_
        refine lv_if_eq (tgt := 92) hx hb dX10_star_51 (by decide) (fun c_51 => ?_) (fun c_51 => ?_)
        · skip
          have c_51 := (z_eq (by omega)).mp c_51
          refine lv_iconst (v := nI (0)) hx hb dX10_star_92 (by decide) ?_
          exact J93 0 (and1_n (fun q => by first | exact and1_q hz1 c_51 ⟨q.1, fun j hj => q.2 j (by omega)⟩ | exact c_85 (q.2 i (by omega)))) _ (lv_sub hl [0, 1, 2, 3] rfl)
        · skip
          have c_51 := (not_congr (z_eq (by omega))).mp c_51
          have hnx := nx_lt (n := wn w) (i := i) hn4 (by omega)
          have hpi := hw.2.1.2.1 i (by omega)
          have hpn := hw.2.1.2.1 _ hnx
          have hsi := su_lt hpi hpn
          refine lv_aload_n hx hb dX10_star_54 rfl (lv_at hl 3 rfl) ?_
          refine mg S hK hP (by omega) hM fd_X10_13 rfl dX10_star_55 ?_
          refine lv_iload_n hx hb dX10_star_58 rfl (lv_at hl 0 rfl) ?_
          refine lv_iconst (v := nI (1)) hx hb dX10_star_59 (by decide) ?_
          refine lv_iadd hx hb dX10_star_60 ?_
          refine tpi (nI_add i 1) ?_
          refine lv_aload_n hx hb dX10_star_61 rfl (lv_at hl 3 rfl) ?_
          refine mg S hK hP (by omega) hM fd_X10_7 rfl dX10_star_62 ?_
          refine lv_irem hx hb dX10_star_65 (fun h => by have h := (z_eq (by omega)).mp h; omega) ?_
          refine tpi (pk_rem (a := i + 1) (by omega) (by omega) (by omega)) ?_
          refine tpi (congrArg nI (nxm (by omega))) ?_
          refine mial S hK hP (by omega) hP9 (vp_in_nI (by omega) (by omega)) dX10_star_66 ?_
          refine tpi (congrArg ((fun x9 => nI (P x9))) (nI_clamp (by omega))) ?_
          refine tpi (congrArg nI (hPw _ hnx)) ?_
          refine lv_aload_n hx hb dX10_star_67 rfl (lv_at hl 3 rfl) ?_
          refine mg S hK hP (by omega) hM fd_X10_13 rfl dX10_star_68 ?_
          refine lv_iload_n hx hb dX10_star_71 rfl (lv_at hl 0 rfl) ?_
          refine mial S hK hP (by omega) hP9 (vp_in_nI (by omega) (by omega)) dX10_star_72 ?_
          refine tpi (congrArg ((fun x9 => nI (P x9))) (nI_clamp (by omega))) ?_
          refine tpi (congrArg nI (hPw i (by omega))) ?_
          refine lv_isub hx hb dX10_star_73 ?_
          refine lv_aload_n hx hb dX10_star_74 rfl (lv_at hl 3 rfl) ?_
          refine mg S hK hP (by omega) hM fd_X10_7 rfl dX10_star_75 ?_
          refine lv_iadd hx hb dX10_star_78 ?_
          refine tpi (sbn (by omega)) ?_
          refine lv_aload_n hx hb dX10_star_79 rfl (lv_at hl 3 rfl) ?_
          refine mg S hK hP (by omega) hM fd_X10_7 rfl dX10_star_80 ?_
          refine lv_irem hx hb dX10_star_83 (fun h => by have h := (z_eq (by omega)).mp h; omega) ?_
          refine tpi (pk_rem (a := wp w (nx (wn w) i) + wn w - wp w i) (by omega) (by omega) (by omega)) ?_
          refine tpi (congrArg nI (sum_ hpi hpn)) ?_
          refine lv_iload_n hx hb dX10_star_84 rfl (lv_at hl 2 rfl) ?_
          refine lv_icmp_ne (tgt := 92) hx hb dX10_star_85 (by decide) (fun c_85 => ?_) (fun c_85 => ?_)
          · skip
            have c_85 := (not_congr (nI_eq (by omega) (by omega))).mp c_85
            refine lv_iconst (v := nI (0)) hx hb dX10_star_92 (by decide) ?_
            exact J93 0 (and1_n (fun q => by first | exact and1_q hz1 c_51 ⟨q.1, fun j hj => q.2 j (by omega)⟩ | exact c_85 (q.2 i (by omega)))) _ (lv_sub hl [0, 1, 2, 3] rfl)
          · skip
            have c_85 := (nI_eq (by omega) (by omega)).mp c_85
            refine lv_iconst (v := nI (1)) hx hb dX10_star_88 (by decide) ?_
            refine lv_goto (tgt := 93) hx hb dX10_star_89 (by decide) ?_
            exact J93 1 (and1_y hz1 c_51 (fun q => ⟨q.1, lt_sn q.2 c_85⟩)) _ (lv_sub hl [0, 1, 2, 3] rfl)
  exact L42 ((wn w - 0) + 1) 0 z0 (by omega) hz0 (Nat.lt_succ_self _) _ (lv_sub hl [0, 1, 2, 3] rfl)
set_option maxHeartbeats 4000000 in
set_option maxRecDepth 100000 in
theorem c_X10_turns (l : Launch) (D : va_G) (cy : Nat → ClassId) (ad : Nat → Nat) (N : Nat) (g : Nat → va_E) (hN : 145 ≤ N) (w : WT) (un : Nat) (la : Int32) (bo : Int32) (tp : Nat) (ft : Int32) (wr0 : Nat) (wa : Nat) (at0 : Nat) (sp : Nat) (tk : Nat) (vl : Int32) (fi : Nat) (nm : Nat) (dp : Nat) (wy : Int32) (st : Int32) (aP : Nat) (aF : Nat) (aH : Nat) (aO : Nat) (ps : Nat) (mn : Nat) (go : Int32) (vi : Nat) (hM : g 114 = mob ad (nI (wn w)) (nI (wf w)) (nI (wh w)) (lN (wo w)) (nI (un)) la bo (nI (tp)) ft (nI (wr0)) (nI (wa)) (nI (at0)) (nI (sp)) (nI (tk)) vl (nI (fi)) (nI (nm)) (nI (dp)) wy st (nI (aP)) (nI (aF)) (nI (aH)) (lN aO) (nI (ps)) (nI (mn)) go (nI (vi))) (P : Nat → Nat) (hP9 : g 115 = .inl (cy 1, 8, .inl (fun x9 => nI (P x9)))) (hw : WOK w) (hPw : ∀ i, i < wn w → P i = wp w i) : Met l yX10_turns (WS yX10_turns cX10_turns 7 (some .int)) (rmF 1 22) (PP [.ref (ad 114)] D cy ad N g) (vp_Si (fun r => r = tOut (wn w) (wp w) (wo w) (wn w))) 0 0 (fun _ => False) := by
  refine mentry (by decide) (Nat.le_of_ble_eq_true rfl) (fun p e s m below meth c ls S hr hlk hnm hP hK hl => ?_)
  have S : CallFix p m c cX10_turns 7 s _ wsL_law RX10 := S
  have hx := S.1
  have hb := S.2.1
  have hl : lv_has ls 7 [(0, .ref (ad 114))] := hl
  have hn4 := hw.1.1
  have hn8 := hw.1.2
  have hpm := perm_P hw hPw
  have hf := lt256 hw.2.2.1 hn8
  have hh := lt256 hw.2.2.2.1 hn8
  have ho := hw.2.2.2.2.1
  refine lv_iconst (v := nI (0)) hx hb dX10_turns_0 (by decide) ?_
  refine lv_istore_n (lv' := [(1, .int (nI (0))), (0, .ref (ad 114))]) hx hb dX10_turns_1 rfl hl (by decide) rfl (fun ls hl => ?_)
  refine lv_iconst (v := nI (0)) hx hb dX10_turns_2 (by decide) ?_
  refine lv_istore_n (lv' := [(2, .int (nI (0))), (1, .int (nI (0))), (0, .ref (ad 114))]) hx hb dX10_turns_3 rfl hl (by decide) rfl (fun ls hl => ?_)
  have L4 : ∀ (fu : Nat) (u : Nat) (s1 : Int32), (u ≤ wn w) → (s1 = tOut (wn w) (wp w) (wo w) u) → (wn w - u) < fu → ∀ (ls : Array Slot), lv_has ls 7 [(2, .int (nI (u))), (1, .int s1), (0, .ref (ad 114))] → W p l e (rmF 1 22) s m [.ref (ad 114)].toArray below meth c s.heap [] 0 0 (MQ below (vp_Si (fun r => r = tOut (wn w) (wp w) (wo w) (wn w))) [.ref (ad 114)].toArray s 0 0 (fun _ => False)) (F0 m 4 ls []) := by
    intro fu
    induction fu with
    | zero => intro u s1 hu hs hms ls hl; exact absurd hms (Nat.not_lt_zero _)
    | succ fu ih4 =>
      intro u s1 hu hs hms ls hl
      refine lv_iload_n hx hb dX10_turns_4 rfl (lv_at hl 0 rfl) ?_
      refine lv_aload_n hx hb dX10_turns_5 rfl (lv_at hl 2 rfl) ?_
      refine mg S hK hP (by omega) hM fd_X10_7 rfl dX10_turns_6 ?_
      refine lv_icmp_ge (tgt := 122) hx hb dX10_turns_9 (by decide) (fun c_9 => ?_) (fun c_9 => ?_)
      · skip
        have c_9 := (nI_leI (by omega) (by omega)).mp c_9
        refine lv_iload_n hx hb dX10_turns_122 rfl (lv_at hl 1 rfl) ?_
        exact rSi S hr hlk (by have e : u = wn w := (by omega); rw [hs, e]) dX10_turns_123
      · skip
        have c_9 := (not_congr (nI_leI (by omega) (by omega))).mp c_9
        refine lv_iconst (v := nI (0)) hx hb dX10_turns_12 (by decide) ?_
        refine lv_istore_n (lv' := [(3, .int (nI (0))), (2, .int (nI (u))), (1, .int s1), (0, .ref (ad 114))]) hx hb dX10_turns_13 rfl hl (by decide) rfl (fun ls hl => ?_)
        have L14 : ∀ (fu : Nat) (v : Nat) (s2 : Int32), (v ≤ wn w) → (s2 = tIn (wn w) (wp w) (wo w) u v s1) → (wn w - v) < fu → ∀ (ls : Array Slot), lv_has ls 7 [(3, .int (nI (v))), (2, .int (nI (u))), (1, .int s2), (0, .ref (ad 114))] → W p l e (rmF 1 22) s m [.ref (ad 114)].toArray below meth c s.heap [] 0 0 (MQ below (vp_Si (fun r => r = tOut (wn w) (wp w) (wo w) (wn w))) [.ref (ad 114)].toArray s 0 0 (fun _ => False)) (F0 m 14 ls []) := by
          intro fu
          induction fu with
          | zero => intro v s2 hv hs2 hms ls hl; exact absurd hms (Nat.not_lt_zero _)
          | succ fu ih14 =>
            intro v s2 hv hs2 hms ls hl
            refine lv_iload_n hx hb dX10_turns_14 rfl (lv_at hl 0 rfl) ?_
            refine lv_aload_n hx hb dX10_turns_15 rfl (lv_at hl 3 rfl) ?_
            refine mg S hK hP (by omega) hM fd_X10_7 rfl dX10_turns_16 ?_
            refine lv_icmp_ge (tgt := 116) hx hb dX10_turns_19 (by decide) (fun c_19 => ?_) (fun c_19 => ?_)
            · skip
              have c_19 := (nI_leI (by omega) (by omega)).mp c_19
              refine lv_iinc (v := nI (u + 1)) (lv' := [(2, .int (nI (u + 1))), (3, .int (nI (v))), (1, .int s2), (0, .ref (ad 114))]) hx hb dX10_turns_116 hl (k := 1) rfl (by exact nI_add u 1) (by decide) rfl (fun ls hl => ?_)
              refine lv_goto (tgt := 4) hx hb dX10_turns_119 (by decide) ?_
              exact ih4 (u + 1) s2 (by omega) (by have e : v = wn w := (by omega); subst e; rw [hs2, hs]; rfl) (by omega) _ (lv_sub hl [0, 2, 3] rfl)
            · skip
              have c_19 := (not_congr (nI_leI (by omega) (by omega))).mp c_19
              refine lv_aload_n hx hb dX10_turns_22 rfl (lv_at hl 3 rfl) ?_
              refine lv_iload_n hx hb dX10_turns_23 rfl (lv_at hl 1 rfl) ?_
              refine lv_iload_n hx hb dX10_turns_24 rfl (lv_at hl 0 rfl) ?_
              refine kVi (As := [.int (nI (u)), .int (nI (v))]) (rest := []) S hK hP (c_X10_isOver l D cy ad N g (by omega) (wn w) (wf w) (wh w) (wo w) un la bo tp ft wr0 wa at0 sp tk vl fi nm dp wy st aP aF aH aO ps mn go vi hM u (by omega) v (by omega)) cv_X10_129 (by omega) hM ⟨_, _, rfl⟩ ⟨rfl, rfl⟩ rfl hl.1 rfl (Nat.le_of_ble_eq_true rfl) ⟨Nat.zero_le _, Nat.zero_le _⟩ dX10_turns_25 (fun r_25 q_25 => ?_)
              subst q_25
              refine lv_if_eq (tgt := 110) hx hb dX10_turns_28 (by decide) (fun c_28 => ?_) (fun c_28 => ?_)
              · skip
                have c_28 := bz_eq.mp c_28
                refine lv_iinc (v := nI (v + 1)) (lv' := [(3, .int (nI (v + 1))), (2, .int (nI (u))), (1, .int s2), (0, .ref (ad 114))]) hx hb dX10_turns_110 hl (k := 0) rfl (by exact nI_add v 1) (by decide) rfl (fun ls hl => ?_)
                refine lv_goto (tgt := 14) hx hb dX10_turns_113 (by decide) ?_
                exact ih14 (v + 1) s2 (by omega) (by first | exact tIn_f c_28 hs2 | exact hz9) (by omega) _ (lv_sub hl [0, 1, 2, 3] rfl)
              · skip
                have c_28 := bz_ne.mp c_28
                have hnu := nx_lt (n := wn w) (i := u) hn4 (by omega)
                have hpu := hw.2.1.2.1 u (by omega)
                have hpnu := hw.2.1.2.1 _ hnu
                have hnv := nx_lt (n := wn w) (i := v) hn4 (by omega)
                have hpnv := hw.2.1.2.1 _ hnv
                have hs3 := su_lt hpnu hpnv
                have hs4 := su_lt hpnu hpu
                refine lv_aload_n hx hb dX10_turns_31 rfl (lv_at hl 3 rfl) ?_
                refine mg S hK hP (by omega) hM fd_X10_13 rfl dX10_turns_32 ?_
                refine lv_iload_n hx hb dX10_turns_35 rfl (lv_at hl 1 rfl) ?_
                refine lv_iconst (v := nI (1)) hx hb dX10_turns_36 (by decide) ?_
                refine lv_iadd hx hb dX10_turns_37 ?_
                refine tpi (nI_add u 1) ?_
                refine lv_aload_n hx hb dX10_turns_38 rfl (lv_at hl 3 rfl) ?_
                refine mg S hK hP (by omega) hM fd_X10_7 rfl dX10_turns_39 ?_
                refine lv_irem hx hb dX10_turns_42 (fun h => by have h := (z_eq (by omega)).mp h; omega) ?_
                refine tpi (pk_rem (a := u + 1) (by omega) (by omega) (by omega)) ?_
                refine tpi (congrArg nI (nxm (by omega))) ?_
                refine mial S hK hP (by omega) hP9 (vp_in_nI (by omega) (by omega)) dX10_turns_43 ?_
                refine tpi (congrArg ((fun x9 => nI (P x9))) (nI_clamp (by omega))) ?_
                refine tpi (congrArg nI (hPw _ hnu)) ?_
                refine lv_istore (lv' := [(4, .int (nI (wp w (nx (wn w) u)))), (3, .int (nI (v))), (2, .int (nI (u))), (1, .int s2), (0, .ref (ad 114))]) hx hb dX10_turns_44 hl (by decide) rfl (fun ls hl => ?_)
                refine lv_aload_n hx hb dX10_turns_46 rfl (lv_at hl 4 rfl) ?_
                refine mg S hK hP (by omega) hM fd_X10_13 rfl dX10_turns_47 ?_
                refine lv_iload_n hx hb dX10_turns_50 rfl (lv_at hl 2 rfl) ?_
                refine mial S hK hP (by omega) hP9 (vp_in_nI (by omega) (by omega)) dX10_turns_51 ?_
                refine tpi (congrArg ((fun x9 => nI (P x9))) (nI_clamp (by omega))) ?_
                refine tpi (congrArg nI (hPw u (by omega))) ?_
                refine lv_iload hx hb dX10_turns_52 (lv_at hl 0 rfl) ?_
                refine lv_isub hx hb dX10_turns_54 ?_
                refine lv_aload_n hx hb dX10_turns_55 rfl (lv_at hl 4 rfl) ?_
                refine mg S hK hP (by omega) hM fd_X10_7 rfl dX10_turns_56 ?_
                refine lv_iadd hx hb dX10_turns_59 ?_
                refine tpi (sbn (by omega)) ?_
                refine lv_aload_n hx hb dX10_turns_60 rfl (lv_at hl 4 rfl) ?_
                refine mg S hK hP (by omega) hM fd_X10_7 rfl dX10_turns_61 ?_
                refine lv_irem hx hb dX10_turns_64 (fun h => by have h := (z_eq (by omega)).mp h; omega) ?_
                refine tpi (pk_rem (a := wp w u + wn w - wp w (nx (wn w) u)) (by omega) (by omega) (by omega)) ?_
                refine tpi (congrArg nI (sum_ hpnu hpu)) ?_
                refine lv_istore (lv' := [(5, .int (nI (su (wn w) (wp w (nx (wn w) u)) (wp w u)))), (4, .int (nI (wp w (nx (wn w) u)))), (3, .int (nI (v))), (2, .int (nI (u))), (1, .int s2), (0, .ref (ad 114))]) hx hb dX10_turns_65 hl (by decide) rfl (fun ls hl => ?_)
                refine lv_aload_n hx hb dX10_turns_67 rfl (lv_at hl 5 rfl) ?_
                refine mg S hK hP (by omega) hM fd_X10_13 rfl dX10_turns_68 ?_
                refine lv_iload_n hx hb dX10_turns_71 rfl (lv_at hl 2 rfl) ?_
                refine lv_iconst (v := nI (1)) hx hb dX10_turns_72 (by decide) ?_
                refine lv_iadd hx hb dX10_turns_73 ?_
                refine tpi (nI_add v 1) ?_
                refine lv_aload_n hx hb dX10_turns_74 rfl (lv_at hl 5 rfl) ?_
                refine mg S hK hP (by omega) hM fd_X10_7 rfl dX10_turns_75 ?_
                refine lv_irem hx hb dX10_turns_78 (fun h => by have h := (z_eq (by omega)).mp h; omega) ?_
                refine tpi (pk_rem (a := v + 1) (by omega) (by omega) (by omega)) ?_
                refine tpi (congrArg nI (nxm (by omega))) ?_
                refine mial S hK hP (by omega) hP9 (vp_in_nI (by omega) (by omega)) dX10_turns_79 ?_
                refine tpi (congrArg ((fun x9 => nI (P x9))) (nI_clamp (by omega))) ?_
                refine tpi (congrArg nI (hPw _ hnv)) ?_
                refine lv_iload hx hb dX10_turns_80 (lv_at hl 1 rfl) ?_
                refine lv_isub hx hb dX10_turns_82 ?_
                refine lv_aload_n hx hb dX10_turns_83 rfl (lv_at hl 5 rfl) ?_
                refine mg S hK hP (by omega) hM fd_X10_7 rfl dX10_turns_84 ?_
                refine lv_iadd hx hb dX10_turns_87 ?_
                refine tpi (sbn (by omega)) ?_
                refine lv_aload_n hx hb dX10_turns_88 rfl (lv_at hl 5 rfl) ?_
                refine mg S hK hP (by omega) hM fd_X10_7 rfl dX10_turns_89 ?_
                refine lv_irem hx hb dX10_turns_92 (fun h => by have h := (z_eq (by omega)).mp h; omega) ?_
                refine tpi (pk_rem (a := wp w (nx (wn w) v) + wn w - wp w (nx (wn w) u)) (by omega) (by omega) (by omega)) ?_
                refine tpi (congrArg nI (sum_ hpnu hpnv)) ?_
                refine lv_istore (lv' := [(6, .int (nI (su (wn w) (wp w (nx (wn w) u)) (wp w (nx (wn w) v))))), (5, .int (nI (su (wn w) (wp w (nx (wn w) u)) (wp w u)))), (4, .int (nI (wp w (nx (wn w) u)))), (3, .int (nI (v))), (2, .int (nI (u))), (1, .int s2), (0, .ref (ad 114))]) hx hb dX10_turns_93 hl (by decide) rfl (fun ls hl => ?_)
                refine lv_iload_n hx hb dX10_turns_95 rfl (lv_at hl 5 rfl) ?_
                refine lv_iload hx hb dX10_turns_96 (lv_at hl 0 rfl) ?_
                refine lv_iload hx hb dX10_turns_98 (lv_at hl 1 rfl) ?_
                have J108 : ∀ (z9 : Int32), (s2 + z9 = tIn (wn w) (wp w) (wo w) u (v + 1) s1) → ∀ (ls : Array Slot), lv_has ls 7 [(6, .int (nI (su (wn w) (wp w (nx (wn w) u)) (wp w (nx (wn w) v))))), (5, .int (nI (su (wn w) (wp w (nx (wn w) u)) (wp w u)))), (4, .int (nI (wp w (nx (wn w) u)))), (3, .int (nI (v))), (2, .int (nI (u))), (1, .int s2), (0, .ref (ad 114))] → W p l e (rmF 1 22) s m [.ref (ad 114)].toArray below meth c s.heap [] 0 0 (MQ below (vp_Si (fun r => r = tOut (wn w) (wp w) (wo w) (wn w))) [.ref (ad 114)].toArray s 0 0 (fun _ => False)) (F0 m 108 ls [.int z9, .int s2]) := by
                  intro z9 hz9 ls hl
                  refine lv_iadd hx hb dX10_turns_108 ?_
                  refine lv_istore_n (lv' := [(1, .int (s2 + z9)), (6, .int (nI (su (wn w) (wp w (nx (wn w) u)) (wp w (nx (wn w) v))))), (5, .int (nI (su (wn w) (wp w (nx (wn w) u)) (wp w u)))), (4, .int (nI (wp w (nx (wn w) u)))), (3, .int (nI (v))), (2, .int (nI (u))), (0, .ref (ad 114))]) hx hb dX10_turns_109 rfl hl (by decide) rfl (fun ls hl => ?_)
                  refine lv_iinc (v := nI (v + 1)) (lv' := [(3, .int (nI (v + 1))), (1, .int (s2 + z9)), (6, .int (nI (su (wn w) (wp w (nx (wn w) u)) (wp w (nx (wn w) v))))), (5, .int (nI (su (wn w) (wp w (nx (wn w) u)) (wp w u)))), (4, .int (nI (wp w (nx (wn w) u)))), (2, .int (nI (u))), (0, .ref (ad 114))]) hx hb dX10_turns_110 hl (k := 4) rfl (by exact nI_add v 1) (by decide) rfl (fun ls hl => ?_)
                  refine lv_goto (tgt := 14) hx hb dX10_turns_113 (by decide) ?_
                  exact ih14 (v + 1) (s2 + z9) (by omega) (by first | exact tIn_f c_28 hs2 | exact hz9) (by omega) _ (lv_sub hl [0, 5, 1, 6] rfl)
                refine lv_icmp_ge (tgt := 107) hx hb dX10_turns_100 (by decide) (fun c_100 => ?_) (fun c_100 => ?_)
                · skip
                  have c_100 := (nI_leI (by omega) (by omega)).mp c_100
                  refine lv_iconst (v := (-1)) hx hb dX10_turns_107 (by decide) ?_
                  exact J108 (-1) (tIn_b c_28 hs2 (by omega)) _ (lv_sub hl [0, 1, 2, 3, 4, 5, 6] rfl)
                · skip
                  have c_100 := (not_congr (nI_leI (by omega) (by omega))).mp c_100
                  refine lv_iconst (v := nI (1)) hx hb dX10_turns_103 (by decide) ?_
                  refine lv_goto (tgt := 108) hx hb dX10_turns_104 (by decide) ?_
                  exact J108 (nI (1)) (tIn_a c_28 hs2 (by omega)) _ (lv_sub hl [0, 1, 2, 3, 4, 5, 6] rfl)
        exact L14 ((wn w - 0) + 1) 0 s1 (by omega) rfl (Nat.lt_succ_self _) _ (lv_sub hl [0, 1, 2, 3] rfl)
  exact L4 ((wn w - 0) + 1) 0 (nI (0)) (by omega) rfl (Nat.lt_succ_self _) _ (lv_sub hl [0, 1, 2] rfl)
set_option maxHeartbeats 4000000 in
set_option maxRecDepth 100000 in
theorem c_X10_can (l : Launch) (D : va_G) (cy : Nat → ClassId) (ad : Nat → Nat) (N : Nat) (g : Nat → va_E) (hinj : ∀ i j : Nat, i < N → j < N → ad i = ad j → i = j) (hN : 145 ≤ N) (w : WT) (un : Nat) (la : Int32) (bo : Int32) (tp : Nat) (ft : Int32) (wr0 : Nat) (wa : Nat) (at0 : Nat) (sp : Nat) (tk : Nat) (vl : Int32) (fi : Nat) (nm : Nat) (dp : Nat) (wy : Int32) (st : Int32) (aP : Nat) (aF : Nat) (aH : Nat) (aO : Nat) (ps : Nat) (mn : Nat) (go : Int32) (vi : Nat) (hM : g 114 = mob ad (nI (wn w)) (nI (wf w)) (nI (wh w)) (lN (wo w)) (nI (un)) la bo (nI (tp)) ft (nI (wr0)) (nI (wa)) (nI (at0)) (nI (sp)) (nI (tk)) vl (nI (fi)) (nI (nm)) (nI (dp)) wy st (nI (aP)) (nI (aF)) (nI (aH)) (lN aO) (nI (ps)) (nI (mn)) go (nI (vi))) (P : Nat → Nat) (hP9 : g 115 = .inl (cy 1, 8, .inl (fun x9 => nI (P x9)))) (hw : WOK w) (hPw : ∀ i, i < wn w → P i = wp w i) (s0 : Int32) : Met l yX10_can (WS yX10_can cX10_can 4 (some .int)) (rmF 3 73) (PP [.ref (ad 114), .int s0] D cy ad N g) (QI (fun r g1 => (r = if s0 = 0 ∨ s0 = 1 then nI (cnS w s0 (wn w)) else -1) ∧ g1 114 = mob ad (nI (wn w)) (nI (wf w)) (nI (wh w)) (lN (wo w)) (nI (un)) la bo (nI (tp)) ft (nI (wr0)) (nI (wa)) (nI (at0)) (nI (sp)) (nI (tk)) vl (nI (fi)) (nI (nm)) (nI (dp)) wy st (nI (aP)) (nI (aF)) (nI (aH)) (lN aO) (nI (ps)) (nI (mn)) go (nI (vi)) ∧ g1 115 = .inl (cy 1, 8, .inl (fun x9 => nI (P x9))) ∧ (∀ j, j ≠ 114 → j ≠ 115 → g1 j = g j)) D ad N) 0 0 (AA ad N) := by
  refine mentry (by decide) (Nat.le_of_ble_eq_true rfl) (fun p e s m below meth c ls S hr hlk hnm hP hK hl => ?_)
  have S : CallFix p m c cX10_can 4 s _ wsL_law RX10 := S
  have hx := S.1
  have hb := S.2.1
  have hl : lv_has ls 4 [(0, .ref (ad 114)), (1, .int s0)] := hl
  have hI : MD (AA ad N) ad N := MD.in hinj
  have hS : va_S (AA ad N) s.heap s.heap [] := va_S.rf
  have hfr : ∀ j : Nat, g j = g j := fun _ => rfl
  have hn4 := hw.1.1
  have hn8 := hw.1.2
  have hpm := perm_P hw hPw
  have hf := lt256 hw.2.2.1 hn8
  have hh := lt256 hw.2.2.2.1 hn8
  have ho := hw.2.2.2.2.1
  refine lv_iload_n hx hb dX10_can_0 rfl (lv_at hl 1 rfl) ?_
  refine lv_i2l hx hb dX10_can_1 rfl ?_
  refine lv_lconst (v := lN 0) hx hb dX10_can_2 (by decide) ?_
  refine lv_lconst (v := lN 1) hx hb dX10_can_3 (by decide) ?_
  refine kSi (As := [.long s0.toInt64, .long (lN 0), .long (lN 1)]) (rest := []) S hK hP (c_X10_in l D cy ad N g s0.toInt64 (lN 0) (lN 1)) cs_X10_115 ⟨rfl, rfl⟩ rfl hl.1 rfl (Nat.le_of_ble_eq_true rfl) ⟨Nat.zero_le _, Nat.zero_le _⟩ dX10_can_4 (fun r_4 q_4 => ?_)
  subst q_4
  refine tpi (ifC (in_45 (by omega) (by omega))) ?_
  refine lv_if_ne (tgt := 12) hx hb dX10_can_7 (by decide) (fun c_7 => ?_) (fun c_7 => ?_)
  · skip
    have c_7 := bz_ne.mp c_7
    obtain ⟨S0, hS0b, rfl⟩ := nI_of (x := s0) c_7.1
    have hS1 : S0 ≤ 1 := by have := (not_congr (nI_ltI (by omega) hS0b)).mp c_7.2; omega
    refine lv_iconst (v := nI (0)) hx hb dX10_can_12 (by decide) ?_
    refine lv_istore_n (lv' := [(2, .int (nI (0))), (0, .ref (ad 114)), (1, .int (nI (S0)))]) hx hb dX10_can_13 rfl hl (by decide) rfl (fun ls hl => ?_)
    refine lv_iconst (v := nI (0)) hx hb dX10_can_14 (by decide) ?_
    refine lv_istore_n (lv' := [(3, .int (nI (0))), (2, .int (nI (0))), (0, .ref (ad 114)), (1, .int (nI (S0)))]) hx hb dX10_can_15 rfl hl (by decide) rfl (fun ls hl => ?_)
    have L16 : ∀ (fu : Nat) (p9 v : Nat), (p9 ≤ wn w) → (v = cnS w (nI S0) p9) → (wn w - p9) < fu → ∀ (g_1 : Nat → va_E) (H : Heap) (locs : List Loc), g_1 114 = mob ad (nI (wn w)) (nI (wf w)) (nI (wh w)) (lN (wo w)) (nI (un)) la bo (nI (tp)) ft (nI (wr0)) (nI (wa)) (nI (at0)) (nI (sp)) (nI (tk)) vl (nI (fi)) (nI (nm)) (nI (dp)) wy st (nI (aP)) (nI (aF)) (nI (aH)) (lN aO) (nI (ps)) (nI (mn)) go (nI (vi)) → g_1 115 = .inl (cy 1, 8, .inl (fun x9 => nI (P x9))) → (∀ j : Nat, j ≠ 114 → j ≠ 115 → g_1 j = g j) → MM D ad N g_1 H → va_S (AA ad N) s.heap H locs → ∀ (ls : Array Slot), lv_has ls 4 [(3, .int (nI (p9))), (2, .int (nI (v))), (0, .ref (ad 114)), (1, .int (nI (S0)))] → W p l e (rmF 3 73) s m [.ref (ad 114), .int (nI S0)].toArray below meth c H locs 0 0 (MQ below (QI (fun r g1 => (r = if (nI S0) = 0 ∨ (nI S0) = 1 then nI (cnS w (nI S0) (wn w)) else -1) ∧ g1 114 = mob ad (nI (wn w)) (nI (wf w)) (nI (wh w)) (lN (wo w)) (nI (un)) la bo (nI (tp)) ft (nI (wr0)) (nI (wa)) (nI (at0)) (nI (sp)) (nI (tk)) vl (nI (fi)) (nI (nm)) (nI (dp)) wy st (nI (aP)) (nI (aF)) (nI (aH)) (lN aO) (nI (ps)) (nI (mn)) go (nI (vi)) ∧ g1 115 = .inl (cy 1, 8, .inl (fun x9 => nI (P x9))) ∧ (∀ j, j ≠ 114 → j ≠ 115 → g1 j = g j)) D ad N) [.ref (ad 114), .int (nI S0)].toArray s 0 0 (AA ad N)) (F0 m 16 ls []) := by
      intro fu
      induction fu with
      | zero => intro p9 v hp9 hv hms g_1 H locs h114_1 h115_1 hfr_1 hP hS ls hl; exact absurd hms (Nat.not_lt_zero _)
      | succ fu ih16 =>
        intro p9 v hp9 hv hms g_1 H locs h114_1 h115_1 hfr_1 hP hS ls hl
        refine lv_iload_n hx hb dX10_can_16 rfl (lv_at hl 0 rfl) ?_
        refine lv_aload_n hx hb dX10_can_17 rfl (lv_at hl 2 rfl) ?_
        refine mg S hK hP (by omega) h114_1 fd_X10_7 rfl dX10_can_18 ?_
        refine lv_icmp_ge (tgt := 59) hx hb dX10_can_21 (by decide) (fun c_21 => ?_) (fun c_21 => ?_)
        · skip
          have c_21 := (nI_leI (by omega) (by omega)).mp c_21
          refine lv_iload_n hx hb dX10_can_59 rfl (lv_at hl 1 rfl) ?_
          have e : p9 = wn w := by omega
          have h01 : nI S0 = 0 ∨ nI S0 = 1 := by rcases (show S0 = 0 ∨ S0 = 1 by omega) with q | q; exact Or.inl (by rw [q]; rfl); exact Or.inr (by rw [q]; rfl)
          exact rMi S hr hlk hP hS ⟨(by rw [if_pos h01, hv, e]), h114_1, h115_1, hfr_1⟩ dX10_can_60
        · skip
          have c_21 := (not_congr (nI_leI (by omega) (by omega))).mp c_21
          refine lv_iload_n hx hb dX10_can_24 rfl (lv_at hl 1 rfl) ?_
          refine lv_aload_n hx hb dX10_can_25 rfl (lv_at hl 2 rfl) ?_
          refine lv_iload_n hx hb dX10_can_26 rfl (lv_at hl 0 rfl) ?_
          refine lv_iload_n hx hb dX10_can_27 rfl (lv_at hl 3 rfl) ?_
          have J36 : ∀ (u9 : Nat), (u9 = 1 - S0) → ∀ (ls : Array Slot), lv_has ls 4 [(3, .int (nI (p9))), (2, .int (nI (v))), (0, .ref (ad 114)), (1, .int (nI (S0)))] → W p l e (rmF 3 73) s m [.ref (ad 114), .int (nI S0)].toArray below meth c H locs 0 0 (MQ below (QI (fun r g1 => (r = if (nI S0) = 0 ∨ (nI S0) = 1 then nI (cnS w (nI S0) (wn w)) else -1) ∧ g1 114 = mob ad (nI (wn w)) (nI (wf w)) (nI (wh w)) (lN (wo w)) (nI (un)) la bo (nI (tp)) ft (nI (wr0)) (nI (wa)) (nI (at0)) (nI (sp)) (nI (tk)) vl (nI (fi)) (nI (nm)) (nI (dp)) wy st (nI (aP)) (nI (aF)) (nI (aH)) (lN aO) (nI (ps)) (nI (mn)) go (nI (vi)) ∧ g1 115 = .inl (cy 1, 8, .inl (fun x9 => nI (P x9))) ∧ (∀ j, j ≠ 114 → j ≠ 115 → g1 j = g j)) D ad N) [.ref (ad 114), .int (nI S0)].toArray s 0 0 (AA ad N)) (F0 m 36 ls [.int (nI (u9)), .int (nI (p9)), .ref (ad 114), .int (nI (v))]) := by
            intro u9 hu9 ls hl
            refine lv_iconst (v := nI (1)) hx hb dX10_can_36 (by decide) ?_
            have hec : (chg w (nI S0) (nI p9)).1 = pR (passF (wn w) (wh w) (wd w p9) (wd w (nx (wn w) p9)) (1 - u9) (wo w) 4) := by rw [chg_yes (by omega) (by rw [if_neg (by omega)]; omega) hw]; unfold chgN; rw [if_pos (by omega), hu9, show 1 - (1 - S0) = S0 by omega]; rfl
            refine kMi (As := [.int (nI (p9)), .int (nI (u9)), .int (nI (1))]) (rest := [.int (nI (v))]) S hK hP hS (fun _ h => h) (c_X10_change l D cy ad N g_1 hinj (by omega) (wn w) (wf w) (wh w) (wo w) un la bo tp ft wr0 wa at0 sp tk vl fi nm dp wy st aP aF aH aO ps mn go vi h114_1 hn4 hn8 P h115_1 (wd w) hpm ho hh p9 (by omega) u9 (by omega) 1 (by omega)) cv_X10_169 (by omega) h114_1 ⟨_, _, rfl⟩ ⟨rfl, rfl⟩ rfl hl.1 rfl (Nat.le_of_ble_eq_true rfl) ⟨Nat.zero_le _, Nat.zero_le _⟩ dX10_can_37 (fun r_37 g_2 H locs q_2 hP hS => ?_)
            obtain ⟨q_37, h114_2, h115_2, f_2⟩ := q_2
            subst q_37
            have hfr_2 : ∀ j : Nat, j ≠ 114 → j ≠ 115 → g_2 j = g j := fun j n0 n1 => (f_2 j n0 n1).trans (hfr_1 j n0 n1)
            refine lv_iconst (v := nI (1)) hx hb dX10_can_40 (by decide) ?_
            have J51 : ∀ (z9 : Nat), (v ||| z9 = cnS w (nI S0) (p9 + 1)) → ∀ (ls : Array Slot), lv_has ls 4 [(3, .int (nI (p9))), (2, .int (nI (v))), (0, .ref (ad 114)), (1, .int (nI (S0)))] → W p l e (rmF 3 73) s m [.ref (ad 114), .int (nI S0)].toArray below meth c H locs 0 0 (MQ below (QI (fun r g1 => (r = if (nI S0) = 0 ∨ (nI S0) = 1 then nI (cnS w (nI S0) (wn w)) else -1) ∧ g1 114 = mob ad (nI (wn w)) (nI (wf w)) (nI (wh w)) (lN (wo w)) (nI (un)) la bo (nI (tp)) ft (nI (wr0)) (nI (wa)) (nI (at0)) (nI (sp)) (nI (tk)) vl (nI (fi)) (nI (nm)) (nI (dp)) wy st (nI (aP)) (nI (aF)) (nI (aH)) (lN aO) (nI (ps)) (nI (mn)) go (nI (vi)) ∧ g1 115 = .inl (cy 1, 8, .inl (fun x9 => nI (P x9))) ∧ (∀ j, j ≠ 114 → j ≠ 115 → g1 j = g j)) D ad N) [.ref (ad 114), .int (nI S0)].toArray s 0 0 (AA ad N)) (F0 m 51 ls [.int (nI (z9)), .int (nI (v))]) := by
              intro z9 hz9 ls hl
              refine lv_ior hx hb dX10_can_51 ?_
              refine tpi (nI_or v z9) ?_
              refine lv_istore_n (lv' := [(2, .int (nI (v ||| z9))), (3, .int (nI (p9))), (0, .ref (ad 114)), (1, .int (nI (S0)))]) hx hb dX10_can_52 rfl hl (by decide) rfl (fun ls hl => ?_)
              refine lv_iinc (v := nI (p9 + 1)) (lv' := [(3, .int (nI (p9 + 1))), (2, .int (nI (v ||| z9))), (0, .ref (ad 114)), (1, .int (nI (S0)))]) hx hb dX10_can_53 hl (k := 1) rfl (by exact nI_add p9 1) (by decide) rfl (fun ls hl => ?_)
              refine lv_goto (tgt := 16) hx hb dX10_can_56 (by decide) ?_
              exact ih16 (p9 + 1) (v ||| z9) (by omega) hz9 (by omega) g_2 _ _ h114_2 h115_2 hfr_2 hP hS _ (lv_sub hl [0, 1, 2, 3] rfl)
            refine lv_icmp_ne (tgt := 50) hx hb dX10_can_41 (by decide) (fun c_41 => ?_) (fun c_41 => ?_)
            · skip
              refine lv_iconst (v := nI (0)) hx hb dX10_can_50 (by decide) ?_
              exact J51 0 (by rw [hv, Nat.or_zero]; exact cnS_n (fun q => c_41 (by rw [← hec]; exact q))) _ (lv_sub hl [0, 1, 2, 3] rfl)
            · skip
              refine lv_iconst (v := nI (1)) hx hb dX10_can_44 (by decide) ?_
              refine lv_iload_n hx hb dX10_can_45 rfl (lv_at hl 0 rfl) ?_
              refine lv_ishl hx hb dX10_can_46 ?_
              refine tpi (shlN 1 (by omega)) ?_
              refine tpi (by rw [Nat.one_mul]) ?_
              refine lv_goto (tgt := 51) hx hb dX10_can_47 (by decide) ?_
              exact J51 (2 ^ p9) (by rw [hv]; exact cnS_y (by rw [hec]; exact c_41)) _ (lv_sub hl [0, 1, 2, 3] rfl)
          refine lv_if_ne (tgt := 35) hx hb dX10_can_28 (by decide) (fun c_28 => ?_) (fun c_28 => ?_)
          · skip
            have c_28 := (not_congr (z_eq (by omega))).mp c_28
            refine lv_iconst (v := nI (0)) hx hb dX10_can_35 (by decide) ?_
            exact J36 0 (by omega) _ (lv_sub hl [0, 1, 2, 3] rfl)
          · skip
            have c_28 := (z_eq (by omega)).mp c_28
            refine lv_iconst (v := nI (1)) hx hb dX10_can_31 (by decide) ?_
            refine lv_goto (tgt := 36) hx hb dX10_can_32 (by decide) ?_
            exact J36 1 (by omega) _ (lv_sub hl [0, 1, 2, 3] rfl)
    exact L16 ((wn w - 0) + 1) 0 0 (by omega) rfl (Nat.lt_succ_self _) g _ _ hM hP9 (fun j n0 n1 => hfr j ) hP hS _ (lv_sub hl [0, 1, 2, 3] rfl)
  · skip
    have c_7 := bz_eq.mp c_7
    have h01 : ¬ (s0 = 0 ∨ s0 = 1) := fun q => c_7 (by rcases q with q | q <;> rw [q] <;> decide)
    refine lv_iconst (v := (-1)) hx hb dX10_can_10 (by decide) ?_
    exact rMi S hr hlk hP hS ⟨(if_neg h01).symm, hM, hP9, (fun j n0 n1 => hfr j )⟩ dX10_can_11

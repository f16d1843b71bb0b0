set_option maxHeartbeats 4000000 in
set_option maxRecDepth 100000 in
theorem c_X8_next (l : Launch) (D : va_G) (cy : Nat → ClassId) (ad : Nat → Nat) (N : Nat) (g : Nat → va_E) (k : Nat) (hk : k < N) (n : Nat) (da : Nat → Nat) (f : Nat) (h : Nat) (o : Nat) (hg : g k = .inr (8, [.int (nI (n)), .long (lN (sea da n)), .int (nI (f)), .int (nI (h)), .long (lN o)])) (hn4 : 4 ≤ n) (hn8 : n ≤ 8) (i : Nat) (hi : i < n) : Met l yX8_next (WS yX8_next cX8_next 2 (some .int)) (rmF 0 0) (PP [.ref (ad k), .int (nI (i))] D cy ad N g) (vp_Si (fun r => r = nI (nx n i))) 0 0 (fun _ => False) := by
  refine mentry (by decide) (Nat.le_of_ble_eq_true rfl) (fun p e s m below meth c ls S hr hlk hnm hP hK hl => ?_)
  have S : CallFix p m c cX8_next 2 s _ wsL_law RX8 := S
  have hx := S.1
  have hb := S.2.1
  have hl : lv_has ls 2 [(0, .ref (ad k)), (1, .int (nI (i)))] := hl
  refine lv_iload_n hx hb dX8_next_0 rfl (lv_at hl 1 rfl) ?_
  refine lv_iconst (v := nI (1)) hx hb dX8_next_1 (by decide) ?_
  refine lv_iadd hx hb dX8_next_2 ?_
  refine tpi (nI_add i 1) ?_
  refine lv_aload_n hx hb dX8_next_3 rfl (lv_at hl 0 rfl) ?_
  refine mg S hK hP hk hg fd_X8_15 rfl dX8_next_4 ?_
  refine lv_icmp_ge (tgt := 16) hx hb dX8_next_7 (by decide) (fun c_7 => ?_) (fun c_7 => ?_)
  · skip
    have c_7 := (nI_leI (by omega) (by omega)).mp c_7
    refine lv_iconst (v := nI (0)) hx hb dX8_next_16 (by decide) ?_
    exact rSi S hr hlk (by show nI (0) = _; rw [nx, if_neg (by omega)]) dX8_next_17
  · skip
    have c_7 := (not_congr (nI_leI (by omega) (by omega))).mp c_7
    refine lv_iload_n hx hb dX8_next_10 rfl (lv_at hl 1 rfl) ?_
    refine lv_iconst (v := nI (1)) hx hb dX8_next_11 (by decide) ?_
    refine lv_iadd hx hb dX8_next_12 ?_
    refine tpi (nI_add i 1) ?_
    refine lv_goto (tgt := 17) hx hb dX8_next_13 (by decide) ?_
    exact rSi S hr hlk (by show nI (i + 1) = _; rw [nx, if_pos (by omega)]) dX8_next_17
set_option maxHeartbeats 4000000 in
set_option maxRecDepth 100000 in
theorem c_X8_previous (l : Launch) (D : va_G) (cy : Nat → ClassId) (ad : Nat → Nat) (N : Nat) (g : Nat → va_E) (k : Nat) (hk : k < N) (n : Nat) (da : Nat → Nat) (f : Nat) (h : Nat) (o : Nat) (hg : g k = .inr (8, [.int (nI (n)), .long (lN (sea da n)), .int (nI (f)), .int (nI (h)), .long (lN o)])) (hn4 : 4 ≤ n) (hn8 : n ≤ 8) (i : Nat) (hi : i < n) : Met l yX8_previous (WS yX8_previous cX8_previous 2 (some .int)) (rmF 0 0) (PP [.ref (ad k), .int (nI (i))] D cy ad N g) (vp_Si (fun r => r = nI (pv n i))) 0 0 (fun _ => False) := by
  refine mentry (by decide) (Nat.le_of_ble_eq_true rfl) (fun p e s m below meth c ls S hr hlk hnm hP hK hl => ?_)
  have S : CallFix p m c cX8_previous 2 s _ wsL_law RX8 := S
  have hx := S.1
  have hb := S.2.1
  have hl : lv_has ls 2 [(0, .ref (ad k)), (1, .int (nI (i)))] := hl
  refine lv_iload_n hx hb dX8_previous_0 rfl (lv_at hl 1 rfl) ?_
  refine lv_if_le (tgt := 10) hx hb dX8_previous_1 (by decide) (fun c_1 => ?_) (fun c_1 => ?_)
  · skip
    have c_1 := (z_le (by omega)).mp c_1
    refine lv_aload_n hx hb dX8_previous_10 rfl (lv_at hl 0 rfl) ?_
    refine mg S hK hP hk hg fd_X8_15 rfl dX8_previous_11 ?_
    refine lv_iconst (v := nI (1)) hx hb dX8_previous_14 (by decide) ?_
    refine lv_isub hx hb dX8_previous_15 ?_
    refine tpi (pk_sub (a := n) (b := 1) (by omega)) ?_
    exact rSi S hr hlk (by show nI (n - 1) = _; rw [pv, if_neg (by omega)]) dX8_previous_16
  · skip
    have c_1 := (not_congr (z_le (by omega))).mp c_1
    refine lv_iload_n hx hb dX8_previous_4 rfl (lv_at hl 1 rfl) ?_
    refine lv_iconst (v := nI (1)) hx hb dX8_previous_5 (by decide) ?_
    refine lv_isub hx hb dX8_previous_6 ?_
    refine tpi (pk_sub (a := i) (b := 1) (by omega)) ?_
    refine lv_goto (tgt := 16) hx hb dX8_previous_7 (by decide) ?_
    exact rSi S hr hlk (by show nI (i - 1) = _; rw [pv, if_pos (by omega)]) dX8_previous_16
set_option maxHeartbeats 4000000 in
set_option maxRecDepth 100000 in
theorem c_X8_dancerAt (l : Launch) (D : va_G) (cy : Nat → ClassId) (ad : Nat → Nat) (N : Nat) (g : Nat → va_E) (k : Nat) (hk : k < N) (n : Nat) (da : Nat → Nat) (f : Nat) (h : Nat) (o : Nat) (hg : g k = .inr (8, [.int (nI (n)), .long (lN (sea da n)), .int (nI (f)), .int (nI (h)), .long (lN o)])) (hn4 : 4 ≤ n) (hn8 : n ≤ 8) (hda : ∀ p, p < n → da p < n) (p0 : Nat) (hp0 : p0 < n) : Met l yX8_dancerAt (WS yX8_dancerAt cX8_dancerAt 2 (some .int)) (rmF 0 0) (PP [.ref (ad k), .int (nI (p0))] D cy ad N g) (vp_Si (fun r => r = nI (da p0))) 0 0 (fun _ => False) := by
  refine mentry (by decide) (Nat.le_of_ble_eq_true rfl) (fun p e s m below meth c ls S hr hlk hnm hP hK hl => ?_)
  have S : CallFix p m c cX8_dancerAt 2 s _ wsL_law RX8 := S
  have hx := S.1
  have hb := S.2.1
  have hl : lv_has ls 2 [(0, .ref (ad k)), (1, .int (nI (p0)))] := hl
  refine lv_aload_n hx hb dX8_dancerAt_0 rfl (lv_at hl 0 rfl) ?_
  refine mg S hK hP hk hg fd_X8_25 rfl dX8_dancerAt_1 ?_
  refine lv_iconst (v := nI (4)) hx hb dX8_dancerAt_4 (by decide) ?_
  refine lv_iload_n hx hb dX8_dancerAt_5 rfl (lv_at hl 1 rfl) ?_
  refine lv_imul hx hb dX8_dancerAt_6 ?_
  refine tpi (pk_mul 4 p0) ?_
  refine lv_lushr hx hb dX8_dancerAt_7 rfl ?_
  refine tpl (wb_shr (n := sea da n) (k := 4 * p0) (sea_big64 hn8 hda) (by omega)) ?_
  refine lv_l2i hx hb dX8_dancerAt_8 rfl ?_
  refine tpi (lN_i _) ?_
  refine lv_bipush (v := nI (15)) hx hb dX8_dancerAt_9 (by decide) ?_
  refine lv_iand hx hb dX8_dancerAt_11 ?_
  refine tpi (nx_and ((sea da n) / 2 ^ (4 * p0)) 15) ?_
  exact rSi S hr hlk (by show nI _ = nI _; rw [an15, sea_at hn8 hda hp0]) dX8_dancerAt_12
set_option maxHeartbeats 4000000 in
set_option maxRecDepth 100000 in
theorem c_X8_stepsUp (l : Launch) (D : va_G) (cy : Nat → ClassId) (ad : Nat → Nat) (N : Nat) (g : Nat → va_E) (k : Nat) (hk : k < N) (n : Nat) (da : Nat → Nat) (f : Nat) (h : Nat) (o : Nat) (hg : g k = .inr (8, [.int (nI (n)), .long (lN (sea da n)), .int (nI (f)), .int (nI (h)), .long (lN o)])) (hn4 : 4 ≤ n) (hn8 : n ≤ 8) (p0 : Nat) (q0 : Nat) (hp0 : p0 < n) (hq0 : q0 < n) : Met l yX8_stepsUp (WS yX8_stepsUp cX8_stepsUp 3 (some .int)) (rmF 0 0) (PP [.ref (ad k), .int (nI (p0)), .int (nI (q0))] D cy ad N g) (vp_Si (fun r => r = nI (su n p0 q0))) 0 0 (fun _ => False) := by
  refine mentry (by decide) (Nat.le_of_ble_eq_true rfl) (fun p e s m below meth c ls S hr hlk hnm hP hK hl => ?_)
  have S : CallFix p m c cX8_stepsUp 3 s _ wsL_law RX8 := S
  have hx := S.1
  have hb := S.2.1
  have hl : lv_has ls 3 [(0, .ref (ad k)), (1, .int (nI (p0))), (2, .int (nI (q0)))] := hl
  refine lv_iload_n hx hb dX8_stepsUp_0 rfl (lv_at hl 2 rfl) ?_
  refine lv_iload_n hx hb dX8_stepsUp_1 rfl (lv_at hl 1 rfl) ?_
  refine lv_icmp_lt (tgt := 11) hx hb dX8_stepsUp_2 (by decide) (fun c_2 => ?_) (fun c_2 => ?_)
  · skip
    have c_2 := (nI_ltI (by omega) (by omega)).mp c_2
    refine lv_iload_n hx hb dX8_stepsUp_11 rfl (lv_at hl 2 rfl) ?_
    refine lv_iload_n hx hb dX8_stepsUp_12 rfl (lv_at hl 1 rfl) ?_
    refine lv_isub hx hb dX8_stepsUp_13 ?_
    refine tpi (rfl) ?_
    refine lv_aload_n hx hb dX8_stepsUp_14 rfl (lv_at hl 0 rfl) ?_
    refine mg S hK hP hk hg fd_X8_15 rfl dX8_stepsUp_15 ?_
    refine lv_iadd hx hb dX8_stepsUp_18 ?_
    refine tpi (by rw [show nI q0 - nI p0 + nI n = nI q0 + nI n - nI p0 from by rw [Int32.sub_eq_add_neg, Int32.sub_eq_add_neg, Int32.add_assoc, Int32.add_comm (-nI p0), ← Int32.add_assoc], nI_add, pk_sub (by omega)]) ?_
    exact rSi S hr hlk (by show nI (q0 + n - p0) = _; rw [su, if_neg (by omega)]) dX8_stepsUp_19
  · skip
    have c_2 := (not_congr (nI_ltI (by omega) (by omega))).mp c_2
    refine lv_iload_n hx hb dX8_stepsUp_5 rfl (lv_at hl 2 rfl) ?_
    refine lv_iload_n hx hb dX8_stepsUp_6 rfl (lv_at hl 1 rfl) ?_
    refine lv_isub hx hb dX8_stepsUp_7 ?_
    refine tpi (pk_sub (a := q0) (b := p0) (by omega)) ?_
    refine lv_goto (tgt := 19) hx hb dX8_stepsUp_8 (by decide) ?_
    exact rSi S hr hlk (by show nI (q0 - p0) = _; rw [su, if_pos (by omega)]) dX8_stepsUp_19
set_option maxHeartbeats 4000000 in
set_option maxRecDepth 100000 in
theorem c_X8_withinRing (l : Launch) (D : va_G) (cy : Nat → ClassId) (ad : Nat → Nat) (N : Nat) (g : Nat → va_E) (k : Nat) (hk : k < N) (n : Nat) (da : Nat → Nat) (f : Nat) (h : Nat) (o : Nat) (hg : g k = .inr (8, [.int (nI (n)), .long (lN (sea da n)), .int (nI (f)), .int (nI (h)), .long (lN o)])) (hn4 : 4 ≤ n) (hn8 : n ≤ 8) (d0 : Nat) (hd0 : d0 < 16) : Met l yX8_withinRing (WS yX8_withinRing cX8_withinRing 2 (some .int)) (rmF 0 0) (PP [.ref (ad k), .int (nI (d0))] D cy ad N g) (vp_Si (fun r => r = nI (wr n d0))) 0 0 (fun _ => False) := by
  refine mentry (by decide) (Nat.le_of_ble_eq_true rfl) (fun p e s m below meth c ls S hr hlk hnm hP hK hl => ?_)
  have S : CallFix p m c cX8_withinRing 2 s _ wsL_law RX8 := S
  have hx := S.1
  have hb := S.2.1
  have hl : lv_has ls 2 [(0, .ref (ad k)), (1, .int (nI (d0)))] := hl
  refine lv_iload_n hx hb dX8_withinRing_0 rfl (lv_at hl 1 rfl) ?_
  refine lv_aload_n hx hb dX8_withinRing_1 rfl (lv_at hl 0 rfl) ?_
  refine mg S hK hP hk hg fd_X8_15 rfl dX8_withinRing_2 ?_
  refine lv_icmp_lt (tgt := 17) hx hb dX8_withinRing_5 (by decide) (fun c_5 => ?_) (fun c_5 => ?_)
  · skip
    have c_5 := (nI_ltI (by omega) (by omega)).mp c_5
    refine lv_iload_n hx hb dX8_withinRing_17 rfl (lv_at hl 1 rfl) ?_
    exact rSi S hr hlk (by show nI (d0) = _; rw [wr, if_pos (by omega)]) dX8_withinRing_18
  · skip
    have c_5 := (not_congr (nI_ltI (by omega) (by omega))).mp c_5
    refine lv_iload_n hx hb dX8_withinRing_8 rfl (lv_at hl 1 rfl) ?_
    refine lv_aload_n hx hb dX8_withinRing_9 rfl (lv_at hl 0 rfl) ?_
    refine mg S hK hP hk hg fd_X8_15 rfl dX8_withinRing_10 ?_
    refine lv_isub hx hb dX8_withinRing_13 ?_
    refine tpi (pk_sub (a := d0) (b := n) (by omega)) ?_
    refine lv_goto (tgt := 18) hx hb dX8_withinRing_14 (by decide) ?_
    exact rSi S hr hlk (by show nI (d0 - n) = _; rw [wr, if_neg (by omega)]) dX8_withinRing_18
set_option maxHeartbeats 4000000 in
set_option maxRecDepth 100000 in
theorem c_X8_seatBits (l : Launch) (D : va_G) (cy : Nat → ClassId) (ad : Nat → Nat) (N : Nat) (g : Nat → va_E) (k : Nat) (hk : k < N) (n : Nat) (x1 : Int64) (x2 : Int32) (x3 : Int32) (x4 : Int64) (hg : g k = .inr (8, [.int (nI (n)), .long x1, .int x2, .int x3, .long x4])) (hn4 : 4 ≤ n) (hn8 : n ≤ 8) : Met l yX8_seatBits (WS yX8_seatBits cX8_seatBits 1 (some .long)) (rmF 0 0) (PP [.ref (ad k)] D cy ad N g) (vp_Sl (fun r => r = lN (2 ^ (4 * n) - 1))) 0 0 (fun _ => False) := by
  refine mentry (by decide) (Nat.le_of_ble_eq_true rfl) (fun p e s m below meth c ls S hr hlk hnm hP hK hl => ?_)
  have S : CallFix p m c cX8_seatBits 1 s _ wsL_law RX8 := S
  have hx := S.1
  have hb := S.2.1
  have hl : lv_has ls 1 [(0, .ref (ad k))] := hl
  refine lv_lconst (v := lN 1) hx hb dX8_seatBits_0 (by decide) ?_
  refine lv_iconst (v := nI (4)) hx hb dX8_seatBits_1 (by decide) ?_
  refine lv_aload_n hx hb dX8_seatBits_2 rfl (lv_at hl 0 rfl) ?_
  refine mg S hK hP hk hg fd_X8_15 rfl dX8_seatBits_3 ?_
  refine lv_imul hx hb dX8_seatBits_6 ?_
  refine tpi (pk_mul 4 n) ?_
  refine lv_lshl hx hb dX8_seatBits_7 rfl ?_
  refine tpl (wb_shl 1 (k := 4 * n) (by omega)) ?_
  refine lv_lconst (v := lN 1) hx hb dX8_seatBits_8 (by decide) ?_
  refine lv_lsub hx hb dX8_seatBits_9 ?_
  refine tpl (lN_sub (a := 1 * 2 ^ (4 * n)) (b := 1) (Nat.one_le_mul_pow _)) ?_
  exact rSl S hr hlk (by show lN _ = lN _; rw [Nat.one_mul]) dX8_seatBits_10
set_option maxHeartbeats 4000000 in
set_option maxRecDepth 100000 in
theorem c_X8_overBit (l : Launch) (D : va_G) (cy : Nat → ClassId) (ad : Nat → Nat) (N : Nat) (g : Nat → va_E) (k : Nat) (hk : k < N) (n : Nat) (da : Nat → Nat) (f : Nat) (h : Nat) (o : Nat) (hg : g k = .inr (8, [.int (nI (n)), .long (lN (sea da n)), .int (nI (f)), .int (nI (h)), .long (lN o)])) (hn4 : 4 ≤ n) (hn8 : n ≤ 8) (i : Nat) (j : Nat) (hi : i < 8) (hj : j < 8) : Met l yX8_overBit (WS yX8_overBit cX8_overBit 3 (some .long)) (rmF 0 0) (PP [.ref (ad k), .int (nI (i)), .int (nI (j))] D cy ad N g) (vp_Sl (fun r => r = lN (2 ^ (8 * i + j)))) 0 0 (fun _ => False) := by
  refine mentry (by decide) (Nat.le_of_ble_eq_true rfl) (fun p e s m below meth c ls S hr hlk hnm hP hK hl => ?_)
  have S : CallFix p m c cX8_overBit 3 s _ wsL_law RX8 := S
  have hx := S.1
  have hb := S.2.1
  have hl : lv_has ls 3 [(0, .ref (ad k)), (1, .int (nI (i))), (2, .int (nI (j)))] := hl
  refine lv_lconst (v := lN 1) hx hb dX8_overBit_0 (by decide) ?_
  refine lv_bipush (v := nI (8)) hx hb dX8_overBit_1 (by decide) ?_
  refine lv_iload_n hx hb dX8_overBit_3 rfl (lv_at hl 1 rfl) ?_
  refine lv_imul hx hb dX8_overBit_4 ?_
  refine tpi (pk_mul 8 i) ?_
  refine lv_iload_n hx hb dX8_overBit_5 rfl (lv_at hl 2 rfl) ?_
  refine lv_iadd hx hb dX8_overBit_6 ?_
  refine tpi (nI_add (8 * i) j) ?_
  refine lv_lshl hx hb dX8_overBit_7 rfl ?_
  refine tpl (wb_shl 1 (k := (8 * i) + j) (by omega)) ?_
  exact rSl S hr hlk (by show lN _ = lN _; rw [Nat.one_mul]) dX8_overBit_8
set_option maxHeartbeats 4000000 in
set_option maxRecDepth 100000 in
theorem c_X8_lies (l : Launch) (D : va_G) (cy : Nat → ClassId) (ad : Nat → Nat) (N : Nat) (g : Nat → va_E) (k : Nat) (hk : k < N) (n : Nat) (da : Nat → Nat) (f : Nat) (h : Nat) (o : Nat) (hg : g k = .inr (8, [.int (nI (n)), .long (lN (sea da n)), .int (nI (f)), .int (nI (h)), .long (lN o)])) (hn4 : 4 ≤ n) (hn8 : n ≤ 8) (ho : o < 2 ^ 64) (i : Nat) (j : Nat) (hi : i < 8) (hj : j < 8) : Met l yX8_lies (WS yX8_lies cX8_lies 3 (some .boolean)) (rmF 1 22) (PP [.ref (ad k), .int (nI (i)), .int (nI (j))] D cy ad N g) (vp_Si (fun r => r = if o.testBit (8 * i + j) = true then 1 else 0)) 0 0 (fun _ => False) := by
  refine mentry (by decide) (Nat.le_of_ble_eq_true rfl) (fun p e s m below meth c ls S hr hlk hnm hP hK hl => ?_)
  have S : CallFix p m c cX8_lies 3 s _ wsL_law RX8 := S
  have hx := S.1
  have hb := S.2.1
  have hl : lv_has ls 3 [(0, .ref (ad k)), (1, .int (nI (i))), (2, .int (nI (j)))] := hl
  refine lv_aload_n hx hb dX8_lies_0 rfl (lv_at hl 0 rfl) ?_
  refine mg S hK hP hk hg fd_X8_35 rfl dX8_lies_1 ?_
  refine lv_aload_n hx hb dX8_lies_4 rfl (lv_at hl 0 rfl) ?_
  refine lv_iload_n hx hb dX8_lies_5 rfl (lv_at hl 1 rfl) ?_
  refine lv_iload_n hx hb dX8_lies_6 rfl (lv_at hl 2 rfl) ?_
  refine kVl (As := [.int (nI (i)), .int (nI (j))]) (rest := [.long (lN o)]) S hK hP (c_X8_overBit l D cy ad N g k hk n da f h o hg hn4 hn8 i j (by omega) (by omega)) cv_X8_51 hk hg ⟨_, _, rfl⟩ ⟨rfl, rfl⟩ rfl hl.1 rfl (Nat.le_of_ble_eq_true rfl) ⟨Nat.zero_le _, Nat.zero_le _⟩ dX8_lies_7 (fun r_7 q_7 => ?_)
  subst q_7
  refine lv_land hx hb dX8_lies_10 ?_
  refine tpl (wb_and ho (p64 hi hj)) ?_
  refine lv_lconst (v := lN 0) hx hb dX8_lies_11 (by decide) ?_
  refine W.lcmp hx hb dX8_lies_12 ?_
  refine lv_if_eq (tgt := 20) hx hb dX8_lies_13 (by decide) (fun c_13 => ?_) (fun c_13 => ?_)
  · skip
    have c_13 := (lgN_eq (Nat.lt_of_le_of_lt Nat.and_le_left ho) (by decide)).mp c_13
    refine lv_iconst (v := nI (0)) hx hb dX8_lies_20 (by decide) ?_
    exact rSz S hr hlk (by first | exact Or.inl rfl | exact Or.inr rfl) (ifF (by rw [and_pow.mp c_13]; decide)) dX8_lies_21
  · skip
    have c_13 := (not_congr (lgN_eq (Nat.lt_of_le_of_lt Nat.and_le_left ho) (by decide))).mp c_13
    refine lv_iconst (v := nI (1)) hx hb dX8_lies_16 (by decide) ?_
    refine lv_goto (tgt := 21) hx hb dX8_lies_17 (by decide) ?_
    exact rSz S hr hlk (by first | exact Or.inl rfl | exact Or.inr rfl) (ifT (by cases e : o.testBit (8 * i + j) with | true => rfl | false => exact absurd (and_pow.mpr e) c_13)) dX8_lies_21
set_option maxHeartbeats 4000000 in
set_option maxRecDepth 100000 in
theorem c_X8_thoseBelow (l : Launch) (D : va_G) (cy : Nat → ClassId) (ad : Nat → Nat) (N : Nat) (g : Nat → va_E) (k : Nat) (hk : k < N) (n : Nat) (da : Nat → Nat) (f : Nat) (h : Nat) (o : Nat) (hg : g k = .inr (8, [.int (nI (n)), .long (lN (sea da n)), .int (nI (f)), .int (nI (h)), .long (lN o)])) (hn4 : 4 ≤ n) (hn8 : n ≤ 8) (ho : o < 2 ^ 64) (i : Nat) (hi : i < 8) : Met l yX8_thoseBelow (WS yX8_thoseBelow cX8_thoseBelow 2 (some .int)) (rmF 0 0) (PP [.ref (ad k), .int (nI (i))] D cy ad N g) (vp_Si (fun r => r = nI (o / 2 ^ (8 * i) % 256))) 0 0 (fun _ => False) := by
  refine mentry (by decide) (Nat.le_of_ble_eq_true rfl) (fun p e s m below meth c ls S hr hlk hnm hP hK hl => ?_)
  have S : CallFix p m c cX8_thoseBelow 2 s _ wsL_law RX8 := S
  have hx := S.1
  have hb := S.2.1
  have hl : lv_has ls 2 [(0, .ref (ad k)), (1, .int (nI (i)))] := hl
  refine lv_aload_n hx hb dX8_thoseBelow_0 rfl (lv_at hl 0 rfl) ?_
  refine mg S hK hP hk hg fd_X8_35 rfl dX8_thoseBelow_1 ?_
  refine lv_bipush (v := nI (8)) hx hb dX8_thoseBelow_4 (by decide) ?_
  refine lv_iload_n hx hb dX8_thoseBelow_6 rfl (lv_at hl 1 rfl) ?_
  refine lv_imul hx hb dX8_thoseBelow_7 ?_
  refine tpi (pk_mul 8 i) ?_
  refine lv_lushr hx hb dX8_thoseBelow_8 rfl ?_
  refine tpl (wb_shr (n := o) (k := 8 * i) ho (by omega)) ?_
  refine lv_l2i hx hb dX8_thoseBelow_9 rfl ?_
  refine tpi (lN_i _) ?_
  refine lv_sipush (v := nI (255)) hx hb dX8_thoseBelow_10 (by decide) ?_
  refine lv_iand hx hb dX8_thoseBelow_13 ?_
  refine tpi (nx_and (o / 2 ^ (8 * i)) 255) ?_
  exact rSi S hr hlk (by show nI _ = nI _; rw [an255]) dX8_thoseBelow_14
set_option maxHeartbeats 4000000 in
set_option maxRecDepth 100000 in
theorem c_X8_thoseAbove (l : Launch) (D : va_G) (cy : Nat → ClassId) (ad : Nat → Nat) (N : Nat) (g : Nat → va_E) (k : Nat) (hk : k < N) (n : Nat) (da : Nat → Nat) (f : Nat) (h : Nat) (o : Nat) (hg : g k = .inr (8, [.int (nI (n)), .long (lN (sea da n)), .int (nI (f)), .int (nI (h)), .long (lN o)])) (hn4 : 4 ≤ n) (hn8 : n ≤ 8) (ho : o < 2 ^ 64) (i : Nat) (hi : i < 8) : Met l yX8_thoseAbove (WS yX8_thoseAbove cX8_thoseAbove 4 (some .int)) (rmF 2 44) (PP [.ref (ad k), .int (nI (i))] D cy ad N g) (vp_Si (fun r => r = nI (tab n o i))) 0 0 (fun _ => False) := by
  refine mentry (by decide) (Nat.le_of_ble_eq_true rfl) (fun p e s m below meth c ls S hr hlk hnm hP hK hl => ?_)
  have S : CallFix p m c cX8_thoseAbove 4 s _ wsL_law RX8 := S
  have hx := S.1
  have hb := S.2.1
  have hl : lv_has ls 4 [(0, .ref (ad k)), (1, .int (nI (i)))] := hl
  refine lv_iconst (v := nI (0)) hx hb dX8_thoseAbove_0 (by decide) ?_
  refine lv_istore_n (lv' := [(2, .int (nI (0))), (0, .ref (ad k)), (1, .int (nI (i)))]) hx hb dX8_thoseAbove_1 rfl hl (by decide) rfl (fun ls hl => ?_)
  refine lv_iconst (v := nI (0)) hx hb dX8_thoseAbove_2 (by decide) ?_
  refine lv_istore_n (lv' := [(3, .int (nI (0))), (2, .int (nI (0))), (0, .ref (ad k)), (1, .int (nI (i)))]) hx hb dX8_thoseAbove_3 rfl hl (by decide) rfl (fun ls hl => ?_)
  have L4 : ∀ (fu : Nat) (j m0 : Nat), (j ≤ n) → (m0 = mk (fun j => o.testBit (8 * j + i)) j) → (n - j) < fu → ∀ (ls : Array Slot), lv_has ls 4 [(3, .int (nI (j))), (2, .int (nI (m0))), (0, .ref (ad k)), (1, .int (nI (i)))] → W p l e (rmF 2 44) s m [.ref (ad k), .int (nI (i))].toArray below meth c s.heap [] 0 0 (MQ below (vp_Si (fun r => r = nI (tab n o i))) [.ref (ad k), .int (nI (i))].toArray s 0 0 (fun _ => False)) (F0 m 4 ls []) := by
    intro fu
    induction fu with
    | zero => intro j m0 hj hm hms ls hl; exact absurd hms (Nat.not_lt_zero _)
    | succ fu ih4 =>
      intro j m0 hj hm hms ls hl
      refine lv_iload_n hx hb dX8_thoseAbove_4 rfl (lv_at hl 0 rfl) ?_
      refine lv_aload_n hx hb dX8_thoseAbove_5 rfl (lv_at hl 2 rfl) ?_
      refine mg S hK hP hk hg fd_X8_15 rfl dX8_thoseAbove_6 ?_
      refine lv_icmp_ge (tgt := 33) hx hb dX8_thoseAbove_9 (by decide) (fun c_9 => ?_) (fun c_9 => ?_)
      · skip
        have c_9 := (nI_leI (by omega) (by omega)).mp c_9
        refine lv_iload_n hx hb dX8_thoseAbove_33 rfl (lv_at hl 1 rfl) ?_
        exact rSi S hr hlk (by have e : j = n := (by omega); subst e; exact congrArg nI hm) dX8_thoseAbove_34
      · skip
        have c_9 := (not_congr (nI_leI (by omega) (by omega))).mp c_9
        refine lv_aload_n hx hb dX8_thoseAbove_12 rfl (lv_at hl 2 rfl) ?_
        refine lv_iload_n hx hb dX8_thoseAbove_13 rfl (lv_at hl 0 rfl) ?_
        refine lv_iload_n hx hb dX8_thoseAbove_14 rfl (lv_at hl 3 rfl) ?_
        refine kVi (As := [.int (nI (j)), .int (nI (i))]) (rest := []) S hK hP (c_X8_lies l D cy ad N g k hk n da f h o hg hn4 hn8 ho j i (by omega) (by omega)) cv_X8_55 hk hg ⟨_, _, rfl⟩ ⟨rfl, rfl⟩ rfl hl.1 rfl (Nat.le_of_ble_eq_true rfl) ⟨Nat.zero_le _, Nat.zero_le _⟩ dX8_thoseAbove_15 (fun r_15 q_15 => ?_)
        subst q_15
        refine lv_if_eq (tgt := 27) hx hb dX8_thoseAbove_18 (by decide) (fun c_18 => ?_) (fun c_18 => ?_)
        · skip
          have c_18 := bz_eq.mp c_18
          refine lv_iinc (v := nI (j + 1)) (lv' := [(3, .int (nI (j + 1))), (2, .int (nI (m0))), (0, .ref (ad k)), (1, .int (nI (i)))]) hx hb dX8_thoseAbove_27 hl (k := 0) rfl (by exact nI_add j 1) (by decide) rfl (fun ls hl => ?_)
          refine lv_goto (tgt := 4) hx hb dX8_thoseAbove_30 (by decide) ?_
          exact ih4 (j + 1) m0 (by omega) (by simp [mk, hm, c_18]) (by omega) _ (lv_sub hl [0, 1, 2, 3] rfl)
        · skip
          have c_18 := bz_ne.mp c_18
          refine lv_iload_n hx hb dX8_thoseAbove_21 rfl (lv_at hl 1 rfl) ?_
          refine lv_iconst (v := nI (1)) hx hb dX8_thoseAbove_22 (by decide) ?_
          refine lv_iload_n hx hb dX8_thoseAbove_23 rfl (lv_at hl 0 rfl) ?_
          refine lv_ishl hx hb dX8_thoseAbove_24 ?_
          refine tpi (shlN 1 (by omega)) ?_
          refine lv_ior hx hb dX8_thoseAbove_25 ?_
          refine tpi (nI_or m0 (1 * 2 ^ j)) ?_
          refine lv_istore_n (lv' := [(2, .int (nI (m0 ||| (1 * 2 ^ j)))), (3, .int (nI (j))), (0, .ref (ad k)), (1, .int (nI (i)))]) hx hb dX8_thoseAbove_26 rfl hl (by decide) rfl (fun ls hl => ?_)
          refine lv_iinc (v := nI (j + 1)) (lv' := [(3, .int (nI (j + 1))), (2, .int (nI (m0 ||| (1 * 2 ^ j)))), (0, .ref (ad k)), (1, .int (nI (i)))]) hx hb dX8_thoseAbove_27 hl (k := 1) rfl (by exact nI_add j 1) (by decide) rfl (fun ls hl => ?_)
          refine lv_goto (tgt := 4) hx hb dX8_thoseAbove_30 (by decide) ?_
          exact ih4 (j + 1) (m0 ||| (1 * 2 ^ j)) (by omega) (by simp [mk, hm, c_18]) (by omega) _ (lv_sub hl [0, 1, 2, 3] rfl)
  exact L4 ((n - 0) + 1) 0 0 (by omega) rfl (Nat.lt_succ_self _) _ (lv_sub hl [0, 1, 2, 3] rfl)
set_option maxHeartbeats 4000000 in
set_option maxRecDepth 100000 in
theorem c_X8_placeOf (l : Launch) (D : va_G) (cy : Nat → ClassId) (ad : Nat → Nat) (N : Nat) (g : Nat → va_E) (k : Nat) (hk : k < N) (n : Nat) (da : Nat → Nat) (f : Nat) (h : Nat) (o : Nat) (hg : g k = .inr (8, [.int (nI (n)), .long (lN (sea da n)), .int (nI (f)), .int (nI (h)), .long (lN o)])) (hn4 : 4 ≤ n) (hn8 : n ≤ 8) (pl : Nat → Nat) (hpm : Perm n da pl) (d0 : Nat) (hd0 : d0 < n) : Met l yX8_placeOf (WS yX8_placeOf cX8_placeOf 3 (some .int)) (rmF 0 0) (PP [.ref (ad k), .int (nI (d0))] D cy ad N g) (vp_Si (fun r => r = nI (pl d0))) 0 0 (fun _ => False) := by
  refine mentry (by decide) (Nat.le_of_ble_eq_true rfl) (fun p e s m below meth c ls S hr hlk hnm hP hK hl => ?_)
  have S : CallFix p m c cX8_placeOf 3 s _ wsL_law RX8 := S
  have hx := S.1
  have hb := S.2.1
  have hl : lv_has ls 3 [(0, .ref (ad k)), (1, .int (nI (d0)))] := hl
  have hda := hpm.1
  have hpl0 := hpm.2.1 d0 hd0
  refine lv_iconst (v := nI (0)) hx hb dX8_placeOf_0 (by decide) ?_
  refine lv_istore_n (lv' := [(2, .int (nI (0))), (0, .ref (ad k)), (1, .int (nI (d0)))]) hx hb dX8_placeOf_1 rfl hl (by decide) rfl (fun ls hl => ?_)
  have L2 : ∀ (fu : Nat) (j : Nat), (j ≤ pl d0) → (n - j) < fu → ∀ (ls : Array Slot), lv_has ls 3 [(2, .int (nI (j))), (0, .ref (ad k)), (1, .int (nI (d0)))] → W p l e (rmF 0 0) s m [.ref (ad k), .int (nI (d0))].toArray below meth c s.heap [] 0 0 (MQ below (vp_Si (fun r => r = nI (pl d0))) [.ref (ad k), .int (nI (d0))].toArray s 0 0 (fun _ => False)) (F0 m 2 ls []) := by
    intro fu
    induction fu with
    | zero => intro j hj hms ls hl; exact absurd hms (Nat.not_lt_zero _)
    | succ fu ih2 =>
      intro j hj hms ls hl
      refine lv_iload_n hx hb dX8_placeOf_2 rfl (lv_at hl 0 rfl) ?_
      refine lv_aload_n hx hb dX8_placeOf_3 rfl (lv_at hl 1 rfl) ?_
      refine mg S hK hP hk hg fd_X8_15 rfl dX8_placeOf_4 ?_
      refine lv_icmp_ge (tgt := 36) hx hb dX8_placeOf_7 (by decide) (fun c_7 => ?_) (fun c_7 => ?_)
      · skip
        have c_7 := (nI_leI (by omega) (by omega)).mp c_7
        exact absurd c_7 (by omega)
      · skip
        have c_7 := (not_congr (nI_leI (by omega) (by omega))).mp c_7
        refine lv_aload_n hx hb dX8_placeOf_10 rfl (lv_at hl 1 rfl) ?_
        refine mg S hK hP hk hg fd_X8_25 rfl dX8_placeOf_11 ?_
        refine lv_iconst (v := nI (4)) hx hb dX8_placeOf_14 (by decide) ?_
        refine lv_iload_n hx hb dX8_placeOf_15 rfl (lv_at hl 0 rfl) ?_
        refine lv_imul hx hb dX8_placeOf_16 ?_
        refine tpi (pk_mul 4 j) ?_
        refine lv_lushr hx hb dX8_placeOf_17 rfl ?_
        refine tpl (wb_shr (n := sea da n) (k := 4 * j) (sea_big64 hn8 hda) (by omega)) ?_
        refine lv_ldc2 hx hb S.2.2.2.1 (S.2.2.2.2 _ m_X8_41) dX8_placeOf_18 ?_
        refine tpl (show (15 : Int64) = lN 15 from rfl) ?_
        refine lv_land hx hb dX8_placeOf_21 ?_
        refine tpl (wb_and (Nat.lt_of_le_of_lt (Nat.div_le_self _ _) (sea_big64 hn8 hda)) (by decide)) ?_
        refine tpl (by rw [an15, sea_at hn8 hda (by omega)]) ?_
        refine lv_iload_n hx hb dX8_placeOf_22 rfl (lv_at hl 2 rfl) ?_
        refine lv_i2l hx hb dX8_placeOf_23 rfl ?_
        refine tpl (nI_l (by omega)) ?_
        refine W.lcmp hx hb dX8_placeOf_24 ?_
        refine lv_if_ne (tgt := 30) hx hb dX8_placeOf_25 (by decide) (fun c_25 => ?_) (fun c_25 => ?_)
        · skip
          have c_25 := (not_congr (lgN_eq (by have := hda j (by omega); omega) (by omega))).mp c_25
          refine lv_iinc (v := nI (j + 1)) (lv' := [(2, .int (nI (j + 1))), (0, .ref (ad k)), (1, .int (nI (d0)))]) hx hb dX8_placeOf_30 hl (k := 0) rfl (by exact nI_add j 1) (by decide) rfl (fun ls hl => ?_)
          refine lv_goto (tgt := 2) hx hb dX8_placeOf_33 (by decide) ?_
          exact ih2 (j + 1) (by have e : j ≠ pl d0 := (fun q => c_25 (by rw [q]; exact hpm.2.2.1 d0 hd0)); omega) (by omega) _ (lv_sub hl [0, 1, 2] rfl)
        · skip
          have c_25 := (lgN_eq (by have := hda j (by omega); omega) (by omega)).mp c_25
          refine lv_iload_n hx hb dX8_placeOf_28 rfl (lv_at hl 0 rfl) ?_
          exact rSi S hr hlk (by have e := hpm.2.2.2 j (by omega); rw [c_25] at e; exact congrArg nI e.symm) dX8_placeOf_29
  exact L2 ((n - 0) + 1) 0 (by omega) (Nat.lt_succ_self _) _ (lv_sub hl [0, 1, 2] rfl)
set_option maxHeartbeats 4000000 in
set_option maxRecDepth 100000 in
theorem c_X8_canCross (l : Launch) (D : va_G) (cy : Nat → ClassId) (ad : Nat → Nat) (N : Nat) (g : Nat → va_E) (k : Nat) (hk : k < N) (n : Nat) (da : Nat → Nat) (f : Nat) (h : Nat) (o : Nat) (hg : g k = .inr (8, [.int (nI (n)), .long (lN (sea da n)), .int (nI (f)), .int (nI (h)), .long (lN o)])) (hn4 : 4 ≤ n) (hn8 : n ≤ 8) (hh : h < 256) (x : Nat) (y : Nat) (hx0 : x < n) (hy0 : y < n) : Met l yX8_canCross (WS yX8_canCross cX8_canCross 4 (some .boolean)) (rmF 1 13) (PP [.ref (ad k), .int (nI (x)), .int (nI (y))] D cy ad N g) (vp_Si (fun r => r = if can n h x y = true then 1 else 0)) 0 0 (fun _ => False) := by
  refine mentry (by decide) (Nat.le_of_ble_eq_true rfl) (fun p e s m below meth c ls S hr hlk hnm hP hK hl => ?_)
  have S : CallFix p m c cX8_canCross 4 s _ wsL_law RX8 := S
  have hx := S.1
  have hb := S.2.1
  have hl : lv_has ls 4 [(0, .ref (ad k)), (1, .int (nI (x))), (2, .int (nI (y)))] := hl
  refine lv_iload_n hx hb dX8_canCross_0 rfl (lv_at hl 1 rfl) ?_
  refine lv_iload_n hx hb dX8_canCross_1 rfl (lv_at hl 2 rfl) ?_
  refine lv_isub hx hb dX8_canCross_2 ?_
  refine va_mabs (rest := []) hx hb (S.2.2.1.trans hl.1.symm) S.2.2.2.1 (S.2.2.2.2 _ m_X8_84) (S.2.2.2.2 _ mt_Lib_Math_abs_name) (S.2.2.2.2 _ mn_java_lang_Math) (S.2.2.2.2 _ mc_Lib_Math_abs_name) (Nat.le_of_ble_eq_true rfl) (Nat.le_of_ble_eq_true rfl) (Nat.zero_le _) (Nat.zero_le _) dX8_canCross_3 ?_
  refine tpi (by exact absdiff (by omega) (by omega)) ?_
  have hz : (if x < y then y - x else x - y) < 8 := by split <;> omega
  refine lv_istore_n (lv' := [(3, .int (nI (if x < y then y - x else x - y))), (0, .ref (ad k)), (1, .int (nI (x))), (2, .int (nI (y)))]) hx hb dX8_canCross_6 rfl hl (by decide) rfl (fun ls hl => ?_)
  refine lv_iload_n hx hb dX8_canCross_7 rfl (lv_at hl 0 rfl) ?_
  refine lv_iconst (v := nI (1)) hx hb dX8_canCross_8 (by decide) ?_
  refine lv_icmp_le (tgt := 44) hx hb dX8_canCross_9 (by decide) (fun c_9 => ?_) (fun c_9 => ?_)
  · skip
    have c_9 := (nI_leI (by omega) (by omega)).mp c_9
    refine lv_iconst (v := nI (0)) hx hb dX8_canCross_44 (by decide) ?_
    exact rSz S hr hlk (by first | exact Or.inl rfl | exact Or.inr rfl) (ifF (by first | exact can_f1 (by omega) (by omega) (by omega) c_9 | exact can_f2 (by omega) (by omega) (by omega) c_19 | exact can_f3 c_37)) dX8_canCross_45
  · skip
    have c_9 := (not_congr (nI_leI (by omega) (by omega))).mp c_9
    refine lv_iload_n hx hb dX8_canCross_12 rfl (lv_at hl 0 rfl) ?_
    refine lv_aload_n hx hb dX8_canCross_13 rfl (lv_at hl 1 rfl) ?_
    refine mg S hK hP hk hg fd_X8_15 rfl dX8_canCross_14 ?_
    refine lv_iconst (v := nI (1)) hx hb dX8_canCross_17 (by decide) ?_
    refine lv_isub hx hb dX8_canCross_18 ?_
    refine tpi (pk_sub (a := n) (b := 1) (by omega)) ?_
    refine lv_icmp_ge (tgt := 44) hx hb dX8_canCross_19 (by decide) (fun c_19 => ?_) (fun c_19 => ?_)
    · skip
      have c_19 := (nI_leI (by omega) (by omega)).mp c_19
      refine lv_iconst (v := nI (0)) hx hb dX8_canCross_44 (by decide) ?_
      exact rSz S hr hlk (by first | exact Or.inl rfl | exact Or.inr rfl) (ifF (by first | exact can_f1 (by omega) (by omega) (by omega) c_9 | exact can_f2 (by omega) (by omega) (by omega) c_19 | exact can_f3 c_37)) dX8_canCross_45
    · skip
      have c_19 := (not_congr (nI_leI (by omega) (by omega))).mp c_19
      refine lv_aload_n hx hb dX8_canCross_22 rfl (lv_at hl 1 rfl) ?_
      refine mg S hK hP hk hg fd_X8_32 rfl dX8_canCross_23 ?_
      refine lv_iload_n hx hb dX8_canCross_26 rfl (lv_at hl 2 rfl) ?_
      refine lv_iushr hx hb dX8_canCross_27 rfl ?_
      refine tpi (ushN (by omega) (by omega)) ?_
      refine lv_aload_n hx hb dX8_canCross_28 rfl (lv_at hl 1 rfl) ?_
      refine mg S hK hP hk hg fd_X8_32 rfl dX8_canCross_29 ?_
      refine lv_iload_n hx hb dX8_canCross_32 rfl (lv_at hl 3 rfl) ?_
      refine lv_iushr hx hb dX8_canCross_33 rfl ?_
      refine tpi (ushN (by omega) (by omega)) ?_
      refine lv_iand hx hb dX8_canCross_34 ?_
      refine tpi (nx_and (h / 2 ^ x) (h / 2 ^ y)) ?_
      refine lv_iconst (v := nI (1)) hx hb dX8_canCross_35 (by decide) ?_
      refine lv_iand hx hb dX8_canCross_36 ?_
      refine tpi (nx_and ((h / 2 ^ x) &&& (h / 2 ^ y)) 1) ?_
      have hz2 : (h / 2 ^ x &&& h / 2 ^ y) &&& 1 ≤ 1 := Nat.and_le_right
      refine lv_if_eq (tgt := 44) hx hb dX8_canCross_37 (by decide) (fun c_37 => ?_) (fun c_37 => ?_)
      · skip
        have c_37 := (z_eq (by omega)).mp c_37
        refine lv_iconst (v := nI (0)) hx hb dX8_canCross_44 (by decide) ?_
        exact rSz S hr hlk (by first | exact Or.inl rfl | exact Or.inr rfl) (ifF (by first | exact can_f1 (by omega) (by omega) (by omega) c_9 | exact can_f2 (by omega) (by omega) (by omega) c_19 | exact can_f3 c_37)) dX8_canCross_45
      · skip
        have c_37 := (not_congr (z_eq (by omega))).mp c_37
        refine lv_iconst (v := nI (1)) hx hb dX8_canCross_40 (by decide) ?_
        refine lv_goto (tgt := 45) hx hb dX8_canCross_41 (by decide) ?_
        exact rSz S hr hlk (by first | exact Or.inl rfl | exact Or.inr rfl) (ifT (by refine can_t ?_ c_9 c_19 c_37 <;> omega)) dX8_canCross_45
set_option maxHeartbeats 4000000 in
set_option maxRecDepth 100000 in
theorem c_X8_seatsAfter (l : Launch) (D : va_G) (cy : Nat → ClassId) (ad : Nat → Nat) (N : Nat) (g : Nat → va_E) (k : Nat) (hk : k < N) (n : Nat) (da : Nat → Nat) (f : Nat) (h : Nat) (o : Nat) (hg : g k = .inr (8, [.int (nI (n)), .long (lN (sea da n)), .int (nI (f)), .int (nI (h)), .long (lN o)])) (hn4 : 4 ≤ n) (hn8 : n ≤ 8) (hda : ∀ p, p < n → da p < n) (d0 : Nat) (hd0 : d0 ≤ n) : Met l yX8_seatsAfter (WS yX8_seatsAfter cX8_seatsAfter 2 (some .long)) (rmF 1 20) (PP [.ref (ad k), .int (nI (d0))] D cy ad N g) (vp_Sl (fun r => r = lN (sea (rot n (d0 % n) da) n))) 0 0 (fun _ => False) := by
  refine mentry (by decide) (Nat.le_of_ble_eq_true rfl) (fun p e s m below meth c ls S hr hlk hnm hP hK hl => ?_)
  have S : CallFix p m c cX8_seatsAfter 2 s _ wsL_law RX8 := S
  have hx := S.1
  have hb := S.2.1
  have hl : lv_has ls 2 [(0, .ref (ad k)), (1, .int (nI (d0)))] := hl
  refine lv_aload_n hx hb dX8_seatsAfter_0 rfl (lv_at hl 0 rfl) ?_
  refine mg S hK hP hk hg fd_X8_25 rfl dX8_seatsAfter_1 ?_
  refine lv_iconst (v := nI (4)) hx hb dX8_seatsAfter_4 (by decide) ?_
  refine lv_iload_n hx hb dX8_seatsAfter_5 rfl (lv_at hl 1 rfl) ?_
  refine lv_imul hx hb dX8_seatsAfter_6 ?_
  refine tpi (pk_mul 4 d0) ?_
  refine lv_lshl hx hb dX8_seatsAfter_7 rfl ?_
  refine tpl (wb_shl (sea da n) (k := 4 * d0) (by omega)) ?_
  refine lv_aload_n hx hb dX8_seatsAfter_8 rfl (lv_at hl 0 rfl) ?_
  refine mg S hK hP hk hg fd_X8_25 rfl dX8_seatsAfter_9 ?_
  refine lv_iconst (v := nI (4)) hx hb dX8_seatsAfter_12 (by decide) ?_
  refine lv_aload_n hx hb dX8_seatsAfter_13 rfl (lv_at hl 0 rfl) ?_
  refine mg S hK hP hk hg fd_X8_15 rfl dX8_seatsAfter_14 ?_
  refine lv_iload_n hx hb dX8_seatsAfter_17 rfl (lv_at hl 1 rfl) ?_
  refine lv_isub hx hb dX8_seatsAfter_18 ?_
  refine tpi (pk_sub (a := n) (b := d0) (by omega)) ?_
  refine lv_imul hx hb dX8_seatsAfter_19 ?_
  refine tpi (pk_mul 4 (n - d0)) ?_
  refine lv_lushr hx hb dX8_seatsAfter_20 rfl ?_
  refine tpl (wb_shr (n := sea da n) (k := 4 * (n - d0)) (sea_big64 hn8 hda) (by omega)) ?_
  refine lv_lor hx hb dX8_seatsAfter_21 ?_
  refine tpl (wb_or (sea_sh hn8 hd0 hda) (Nat.lt_of_le_of_lt (Nat.div_le_self _ _) (sea_big64 hn8 hda))) ?_
  refine lv_aload_n hx hb dX8_seatsAfter_22 rfl (lv_at hl 0 rfl) ?_
  refine kVl (As := []) (rest := [.long (lN (((sea da n) * 2 ^ (4 * d0)) ||| ((sea da n) / 2 ^ (4 * (n - d0)))))]) S hK hP (c_X8_seatBits l D cy ad N g k hk n (lN (sea da n)) (nI (f)) (nI (h)) (lN o) hg hn4 hn8) cv_X8_21 hk hg ⟨_, _, rfl⟩ ⟨rfl, rfl⟩ rfl hl.1 rfl (Nat.le_of_ble_eq_true rfl) ⟨Nat.zero_le _, Nat.zero_le _⟩ dX8_seatsAfter_23 (fun r_23 q_23 => ?_)
  subst q_23
  refine lv_land hx hb dX8_seatsAfter_26 ?_
  refine tpl (wb_and (Nat.or_lt_two_pow (sea_sh hn8 hd0 hda) (Nat.lt_of_le_of_lt (Nat.div_le_self _ _) (sea_big64 hn8 hda))) (p64m hn8)) ?_
  exact rSl S hr hlk (congrArg lN (sea_rot hn8 hd0 (by omega) hda)) dX8_seatsAfter_27

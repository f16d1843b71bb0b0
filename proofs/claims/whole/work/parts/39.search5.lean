set_option maxHeartbeats 4000000 in
set_option maxRecDepth 100000 in
theorem c_X2_lengthOfWay (l : Launch) (D : va_G) (cy : Nat → ClassId) (ad : Nat → Nat) (N : Nat) (g : Nat → va_E) (b : Nat) (hbN : b + 10 ≤ N) (gk : Int64) (sd : Int32) (go : Int32) (an9 : Int32) (Q : QS) (n : Nat) (f : Nat) (h : Nat) (hg : g b = .inr (2, [.ref (ad (b + 1)), .ref (ad (b + 2)), .ref (ad (b + 3)), .ref (ad (b + 4)), .ref (ad (b + 5)), .ref (ad (b + 6)), .ref (ad (b + 7)), .ref (ad (b + 8)), .ref (ad (b + 9)), .long gk, .int sd, .int (nI (qk Q)), .int go, .int an9])) (SE : Nat → Int64) (OV : Nat → Int64) (KY : Nat → Int64) (PA : Nat → Int32) (hp9 : g (b + 4) = .inl (cy 1, 1500, .inl PA)) (AC : Nat → Int32) (ha9 : g (b + 5) = .inl (cy 1, 1500, .inl AC)) (SL : Nat → Nat) (hrel : SRel SE OV KY PA AC SL go Q n f h) (hgl : qg Q ≠ 0) : Met l yX2_lengthOfWay (WS yX2_lengthOfWay cX2_lengthOfWay 4 (some .int)) (rmF 0 0) (PP [.ref (ad b)] D cy ad N g) (vp_Si (fun r => r = nI (wlen (qp Q) (qg Q - 1)))) 0 0 (fun _ => False) := by
  refine mentry (by decide) (Nat.le_of_ble_eq_true rfl) (fun p e s m below meth c ls S hr hlk hnm hP hK hl => ?_)
  have S : CallFix p m c cX2_lengthOfWay 4 s _ wsL_law RX2 := S
  have hx := S.1
  have hb := S.2.1
  have hl : lv_has ls 4 [(0, .ref (ad b))] := hl
  have hmc := hrel.1
  have hgq := hrel.2.2.2.2
  have hgo := hrel.2.2.2.1
  rw [if_neg hgl] at hgo
  have hpp := srel_p hrel
  refine lv_iconst (v := nI (0)) hx hb dX2_lengthOfWay_0 (by decide) ?_
  refine lv_istore_n (lv' := [(1, .int (nI (0))), (0, .ref (ad b))]) hx hb dX2_lengthOfWay_1 rfl hl (by decide) rfl (fun ls hl => ?_)
  refine lv_aload_n hx hb dX2_lengthOfWay_2 rfl (lv_at hl 1 rfl) ?_
  refine mg S hK hP (by omega) hg fd_X2_74 rfl dX2_lengthOfWay_3 ?_
  refine tpi (hgo) ?_
  refine lv_istore_n (lv' := [(2, .int (nI (qg Q - 1))), (1, .int (nI (0))), (0, .ref (ad b))]) hx hb dX2_lengthOfWay_6 rfl hl (by decide) rfl (fun ls hl => ?_)
  refine lv_iconst (v := nI (0)) hx hb dX2_lengthOfWay_7 (by decide) ?_
  refine lv_istore_n (lv' := [(3, .int (nI (0))), (2, .int (nI (qg Q - 1))), (1, .int (nI (0))), (0, .ref (ad b))]) hx hb dX2_lengthOfWay_8 rfl hl (by decide) rfl (fun ls hl => ?_)
  have L9 : ∀ (fu : Nat) (j x : Nat), (wlen (qp Q) (qg Q - 1) = j + wlen (qp Q) x) → (j + x ≤ qg Q - 1) → x < fu → ∀ (ls : Array Slot), lv_has ls 4 [(3, .int (nI (j))), (2, .int (nI (x))), (1, .int (nI (j))), (0, .ref (ad b))] → W p l e (rmF 0 0) s m [.ref (ad b)].toArray below meth c s.heap [] 0 0 (MQ below (vp_Si (fun r => r = nI (wlen (qp Q) (qg Q - 1)))) [.ref (ad b)].toArray s 0 0 (fun _ => False)) (F0 m 9 ls []) := by
    intro fu
    induction fu with
    | zero => intro j x hx9 hjx hms ls hl; exact absurd hms (Nat.not_lt_zero _)
    | succ fu ih9 =>
      intro j x hx9 hjx hms ls hl
      refine lv_iload_n hx hb dX2_lengthOfWay_9 rfl (lv_at hl 0 rfl) ?_
      refine lv_sipush (v := nI (1500)) hx hb dX2_lengthOfWay_10 (by decide) ?_
      refine lv_icmp_ge (tgt := 43) hx hb dX2_lengthOfWay_13 (by decide) (fun c_13 => ?_) (fun c_13 => ?_)
      · skip
        have c_13 := (nI_leI (by omega) (by omega)).mp c_13
        exact absurd c_13 (by omega)
      · skip
        have c_13 := (not_congr (nI_leI (by omega) (by omega))).mp c_13
        refine lv_iload_n hx hb dX2_lengthOfWay_16 rfl (lv_at hl 1 rfl) ?_
        refine lv_if_le (tgt := 43) hx hb dX2_lengthOfWay_17 (by decide) (fun c_17 => ?_) (fun c_17 => ?_)
        · skip
          have c_17 := (z_le (by omega)).mp c_17
          refine lv_iload_n hx hb dX2_lengthOfWay_43 rfl (lv_at hl 2 rfl) ?_
          have hx0 : x = 0 := by omega
          rw [hx0, wlen_0] at hx9
          exact rSi S hr hlk (congrArg nI (by omega)) dX2_lengthOfWay_44
        · skip
          have c_17 := (not_congr (z_le (by omega))).mp c_17
          refine lv_iload_n hx hb dX2_lengthOfWay_20 rfl (lv_at hl 1 rfl) ?_
          refine lv_sipush (v := nI (1500)) hx hb dX2_lengthOfWay_21 (by decide) ?_
          refine lv_icmp_ge (tgt := 43) hx hb dX2_lengthOfWay_24 (by decide) (fun c_24 => ?_) (fun c_24 => ?_)
          · skip
            have c_24 := (nI_leI (by omega) (by omega)).mp c_24
            exact absurd c_24 (by omega)
          · skip
            have c_24 := (not_congr (nI_leI (by omega) (by omega))).mp c_24
            have hws := wlen_s hpp (m := x) (by omega) (by omega)
            have hpx : qp Q x < x := by rcases hpp x (by omega) with q | q; omega; exact q
            refine lv_aload_n hx hb dX2_lengthOfWay_27 rfl (lv_at hl 3 rfl) ?_
            refine mg S hK hP (by omega) hg fd_X2_21 rfl dX2_lengthOfWay_28 ?_
            refine lv_iload_n hx hb dX2_lengthOfWay_31 rfl (lv_at hl 1 rfl) ?_
            refine mial S hK hP (by omega) hp9 (vp_in_nI (by omega) (by omega)) dX2_lengthOfWay_32 ?_
            refine tpi (congrArg PA (nI_clamp (by omega))) ?_
            refine tpi (by rw [(hrel.2.2.1 x (by omega)).2.2.1, if_neg (by omega)]) ?_
            refine lv_istore_n (lv' := [(2, .int (nI (qp Q x))), (3, .int (nI (j))), (1, .int (nI (j))), (0, .ref (ad b))]) hx hb dX2_lengthOfWay_33 rfl hl (by decide) rfl (fun ls hl => ?_)
            refine lv_iinc (v := nI (j + 1)) (lv' := [(1, .int (nI (j + 1))), (2, .int (nI (qp Q x))), (3, .int (nI (j))), (0, .ref (ad b))]) hx hb dX2_lengthOfWay_34 hl (k := 2) rfl (by exact nI_add j 1) (by decide) rfl (fun ls hl => ?_)
            refine lv_iinc (v := nI (j + 1)) (lv' := [(3, .int (nI (j + 1))), (1, .int (nI (j + 1))), (2, .int (nI (qp Q x))), (0, .ref (ad b))]) hx hb dX2_lengthOfWay_37 hl (k := 2) rfl (by exact nI_add j 1) (by decide) rfl (fun ls hl => ?_)
            refine lv_goto (tgt := 9) hx hb dX2_lengthOfWay_40 (by decide) ?_
            exact ih9 (j + 1) (qp Q x) (by rw [hws] at hx9; omega) (by omega) (by omega) _ (lv_sub hl [0, 2, 1, 3] rfl)
  exact L9 (((qg Q - 1)) + 1) 0 (qg Q - 1) (Nat.zero_add _).symm (by omega) (Nat.lt_succ_self _) _ (lv_sub hl [0, 1, 2, 3] rfl)
set_option maxHeartbeats 4000000 in
set_option maxRecDepth 100000 in
theorem c_X2_actOfWay (l : Launch) (D : va_G) (cy : Nat → ClassId) (ad : Nat → Nat) (N : Nat) (g : Nat → va_E) (b : Nat) (hbN : b + 10 ≤ N) (gk : Int64) (sd : Int32) (go : Int32) (L9 : Nat) (Q : QS) (n : Nat) (f : Nat) (h : Nat) (hg : g b = .inr (2, [.ref (ad (b + 1)), .ref (ad (b + 2)), .ref (ad (b + 3)), .ref (ad (b + 4)), .ref (ad (b + 5)), .ref (ad (b + 6)), .ref (ad (b + 7)), .ref (ad (b + 8)), .ref (ad (b + 9)), .long gk, .int sd, .int (nI (qk Q)), .int go, .int (nI (L9))])) (SE : Nat → Int64) (OV : Nat → Int64) (KY : Nat → Int64) (PA : Nat → Int32) (hp9 : g (b + 4) = .inl (cy 1, 1500, .inl PA)) (AC : Nat → Int32) (ha9 : g (b + 5) = .inl (cy 1, 1500, .inl AC)) (SL : Nat → Nat) (hrel : SRel SE OV KY PA AC SL go Q n f h) (hgl : qg Q ≠ 0) (hL9 : L9 = wlen (qp Q) (qg Q - 1)) (i : Nat) (hi : i < wlen (qp Q) (qg Q - 1)) : Met l yX2_actOfWay (WS yX2_actOfWay cX2_actOfWay 4 (some .int)) (rmF 0 0) (PP [.ref (ad b), .int (nI (i))] D cy ad N g) (vp_Si (fun r => r = nI (qa Q (itp (qp Q) (wlen (qp Q) (qg Q - 1) - 1 - i) (qg Q - 1))))) 0 0 (fun _ => False) := by
  refine mentry (by decide) (Nat.le_of_ble_eq_true rfl) (fun p e s m below meth c ls S hr hlk hnm hP hK hl => ?_)
  have S : CallFix p m c cX2_actOfWay 4 s _ wsL_law RX2 := S
  have hx := S.1
  have hb := S.2.1
  have hl : lv_has ls 4 [(0, .ref (ad b)), (1, .int (nI (i)))] := hl
  have hmc := hrel.1
  have hgq := hrel.2.2.2.2
  have hgo := hrel.2.2.2.1
  rw [if_neg hgl] at hgo
  have hpp := srel_p hrel
  have hio := itp_ok hpp (m := qg Q - 1) (by omega)
  have hLb : L9 ≤ 1500 := by have := wlen_le hpp (m := qg Q - 1) (by omega); omega
  refine lv_aload_n hx hb dX2_actOfWay_0 rfl (lv_at hl 0 rfl) ?_
  refine mg S hK hP (by omega) hg fd_X2_74 rfl dX2_actOfWay_1 ?_
  refine tpi (hgo) ?_
  refine lv_istore_n (lv' := [(2, .int (nI (qg Q - 1))), (0, .ref (ad b)), (1, .int (nI (i)))]) hx hb dX2_actOfWay_4 rfl hl (by decide) rfl (fun ls hl => ?_)
  refine lv_aload_n hx hb dX2_actOfWay_5 rfl (lv_at hl 1 rfl) ?_
  refine mg S hK hP (by omega) hg fd_X2_93 rfl dX2_actOfWay_6 ?_
  refine lv_iconst (v := nI (1)) hx hb dX2_actOfWay_9 (by decide) ?_
  refine lv_isub hx hb dX2_actOfWay_10 ?_
  refine tpi (pk_sub (a := L9) (b := 1) (by omega)) ?_
  refine lv_istore_n (lv' := [(3, .int (nI (L9 - 1))), (2, .int (nI (qg Q - 1))), (0, .ref (ad b)), (1, .int (nI (i)))]) hx hb dX2_actOfWay_11 rfl hl (by decide) rfl (fun ls hl => ?_)
  have L12 : ∀ (fu : Nat) (j x : Nat), (j ≤ L9 - 1 - i) → (x = itp (qp Q) j (qg Q - 1)) → (L9 - j) < fu → ∀ (ls : Array Slot), lv_has ls 4 [(3, .int (nI (L9 - 1 - j))), (2, .int (nI (x))), (0, .ref (ad b)), (1, .int (nI (i)))] → W p l e (rmF 0 0) s m [.ref (ad b), .int (nI (i))].toArray below meth c s.heap [] 0 0 (MQ below (vp_Si (fun r => r = nI (qa Q (itp (qp Q) (wlen (qp Q) (qg Q - 1) - 1 - i) (qg Q - 1))))) [.ref (ad b), .int (nI (i))].toArray s 0 0 (fun _ => False)) (F0 m 12 ls []) := by
    intro fu
    induction fu with
    | zero => intro j x hj9 hx9 hms ls hl; exact absurd hms (Nat.not_lt_zero _)
    | succ fu ih12 =>
      intro j x hj9 hx9 hms ls hl
      have hij := hio j (by omega)
      rw [← hx9] at hij
      have hxp := wlen_pos hpp (m := x) (by omega) (by omega)
      refine lv_iload_n hx hb dX2_actOfWay_12 rfl (lv_at hl 0 rfl) ?_
      refine lv_iload_n hx hb dX2_actOfWay_13 rfl (lv_at hl 3 rfl) ?_
      refine lv_icmp_le (tgt := 41) hx hb dX2_actOfWay_14 (by decide) (fun c_14 => ?_) (fun c_14 => ?_)
      · skip
        have c_14 := (nI_leI (by omega) (by omega)).mp c_14
        refine lv_iload_n hx hb dX2_actOfWay_41 rfl (lv_at hl 1 rfl) ?_
        refine lv_if_lt (tgt := 61) hx hb dX2_actOfWay_42 (by decide) (fun c_42 => ?_) (fun c_42 => ?_)
        · skip
          have c_42 := (z_lt (by omega)).mp c_42
          exact c_42.elim
        · skip
          have c_42 := (not_congr (z_lt (by omega))).mp c_42
          refine lv_iload_n hx hb dX2_actOfWay_45 rfl (lv_at hl 1 rfl) ?_
          refine lv_sipush (v := nI (1500)) hx hb dX2_actOfWay_46 (by decide) ?_
          refine lv_icmp_ge (tgt := 61) hx hb dX2_actOfWay_49 (by decide) (fun c_49 => ?_) (fun c_49 => ?_)
          · skip
            have c_49 := (nI_leI (by omega) (by omega)).mp c_49
            exact absurd c_49 (by omega)
          · skip
            have c_49 := (not_congr (nI_leI (by omega) (by omega))).mp c_49
            refine lv_aload_n hx hb dX2_actOfWay_52 rfl (lv_at hl 2 rfl) ?_
            refine mg S hK hP (by omega) hg fd_X2_25 rfl dX2_actOfWay_53 ?_
            refine lv_iload_n hx hb dX2_actOfWay_56 rfl (lv_at hl 1 rfl) ?_
            refine mial S hK hP (by omega) ha9 (vp_in_nI (by omega) (by omega)) dX2_actOfWay_57 ?_
            refine tpi (congrArg AC (nI_clamp (by omega))) ?_
            refine tpi ((hrel.2.2.1 x (by omega)).2.2.2.1) ?_
            refine lv_goto (tgt := 63) hx hb dX2_actOfWay_58 (by decide) ?_
            exact rSi S hr hlk (by rw [hx9, show j = wlen (qp Q) (qg Q - 1) - 1 - i by omega]) dX2_actOfWay_63
      · skip
        have c_14 := (not_congr (nI_leI (by omega) (by omega))).mp c_14
        refine lv_iload_n hx hb dX2_actOfWay_17 rfl (lv_at hl 1 rfl) ?_
        refine lv_if_le (tgt := 41) hx hb dX2_actOfWay_18 (by decide) (fun c_18 => ?_) (fun c_18 => ?_)
        · skip
          have c_18 := (z_le (by omega)).mp c_18
          exact absurd c_18 (by omega)
        · skip
          have c_18 := (not_congr (z_le (by omega))).mp c_18
          refine lv_iload_n hx hb dX2_actOfWay_21 rfl (lv_at hl 1 rfl) ?_
          refine lv_sipush (v := nI (1500)) hx hb dX2_actOfWay_22 (by decide) ?_
          refine lv_icmp_ge (tgt := 41) hx hb dX2_actOfWay_25 (by decide) (fun c_25 => ?_) (fun c_25 => ?_)
          · skip
            have c_25 := (nI_leI (by omega) (by omega)).mp c_25
            exact absurd c_25 (by omega)
          · skip
            have c_25 := (not_congr (nI_leI (by omega) (by omega))).mp c_25
            refine lv_aload_n hx hb dX2_actOfWay_28 rfl (lv_at hl 2 rfl) ?_
            refine mg S hK hP (by omega) hg fd_X2_21 rfl dX2_actOfWay_29 ?_
            refine lv_iload_n hx hb dX2_actOfWay_32 rfl (lv_at hl 1 rfl) ?_
            refine mial S hK hP (by omega) hp9 (vp_in_nI (by omega) (by omega)) dX2_actOfWay_33 ?_
            refine tpi (congrArg PA (nI_clamp (by omega))) ?_
            refine tpi (by rw [(hrel.2.2.1 x (by omega)).2.2.1, if_neg (by omega)]) ?_
            refine lv_istore_n (lv' := [(2, .int (nI (qp Q x))), (3, .int (nI (L9 - 1 - j))), (0, .ref (ad b)), (1, .int (nI (i)))]) hx hb dX2_actOfWay_34 rfl hl (by decide) rfl (fun ls hl => ?_)
            refine lv_iinc (v := nI (L9 - 1 - (j + 1))) (lv' := [(3, .int (nI (L9 - 1 - (j + 1)))), (2, .int (nI (qp Q x))), (0, .ref (ad b)), (1, .int (nI (i)))]) hx hb dX2_actOfWay_35 hl (k := 1) rfl (nI_dec2 (by omega)) (by decide) rfl (fun ls hl => ?_)
            refine lv_goto (tgt := 12) hx hb dX2_actOfWay_38 (by decide) ?_
            exact ih12 (j + 1) (qp Q x) (by omega) (by rw [itp, ← hx9]) (by omega) _ (lv_sub hl [0, 1, 2, 3] rfl)
  exact L12 ((L9 - 0) + 1) 0 (qg Q - 1) (by omega) rfl (Nat.lt_succ_self _) _ (lv_sub hl [0, 1, 2, 3] rfl)

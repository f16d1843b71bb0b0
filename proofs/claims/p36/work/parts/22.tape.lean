set_option maxHeartbeats 4000000 in
set_option maxRecDepth 100000 in
theorem c_X5_append (l : Launch) (D : va_G) (cy : Nat → ClassId) (ad : Nat → Nat) (N : Nat) (g : Nat → va_E) (hinj : ∀ i j : Nat, i < N → j < N → ad i = ad j → i = j) (k : Nat) (hk : k < N) (kt : Nat) (hkt : kt < N) (len : Nat) (rd : Nat) (kd : Nat) (pl0 : Nat) (vl : Int32) (T : Nat → Nat) (hg : g k = .inr (5, [.ref (ad kt), .int (nI (len)), .int (nI (rd)), .int (nI (kd)), .int (nI (pl0)), .int vl])) (hgt : g kt = .inl (cy 0, 160, .inl (fun x9 => sb_b (T x9)))) (hkk : k ≠ kt) (hlen : len ≤ 160) (hT : ∀ i, T i < 256) (vv : Nat) (hvv : vv < 2 ^ 64) : Met l yX5_append (WS yX5_append cX5_append 4 (some .boolean)) (rmF 0 0) (PP [.ref (ad k), .long (lN vv)] D cy ad N g) (QI (fun r g1 => (r = if len + 8 ≤ 160 then 1 else 0) ∧ g1 k = .inr (5, [.ref (ad kt), .int (nI (if len + 8 ≤ 160 then len + 8 else len)), .int (nI (rd)), .int (nI (kd)), .int (nI (pl0)), .int vl]) ∧ g1 kt = .inl (cy 0, 160, .inl (fun x9 => sb_b ((if len + 8 ≤ 160 then feT T len vv 8 else T) x9))) ∧ (∀ j, j ≠ k → j ≠ kt → g1 j = g j)) D ad N) 0 0 (AA ad N) := by
  refine mentry (by decide) (Nat.le_of_ble_eq_true rfl) (fun p e s m below meth c ls S hr hlk hnm hP hK hl => ?_)
  have S : CallFix p m c cX5_append 4 s _ wsL_law RX5 := S
  have hx := S.1
  have hb := S.2.1
  have hl : lv_has ls 4 [(0, .ref (ad k)), (1, .long (lN vv))] := hl
  have hI : MD (AA ad N) ad N := MD.in hinj
  have hS : va_S (AA ad N) s.heap s.heap [] := va_S.rf
  have hfr : ∀ j : Nat, g j = g j := fun _ => rfl
  refine lv_aload_n hx hb dX5_append_0 rfl (lv_at hl 0 rfl) ?_
  refine mg S hK hP hk hg fd_X5_15 rfl dX5_append_1 ?_
  refine lv_if_lt (tgt := 22) hx hb dX5_append_4 (by decide) (fun c_4 => ?_) (fun c_4 => ?_)
  · skip
    have c_4 := (z_lt (by omega)).mp c_4
    exact c_4.elim
  · skip
    have c_4 := (not_congr (z_lt (by omega))).mp c_4
    refine lv_aload_n hx hb dX5_append_7 rfl (lv_at hl 0 rfl) ?_
    refine mg S hK hP hk hg fd_X5_15 rfl dX5_append_8 ?_
    refine lv_bipush (v := nI (8)) hx hb dX5_append_11 (by decide) ?_
    refine lv_iadd hx hb dX5_append_13 ?_
    refine tpi (nI_add len 8) ?_
    refine lv_aload_n hx hb dX5_append_14 rfl (lv_at hl 0 rfl) ?_
    refine mg S hK hP hk hg fd_X5_9 rfl dX5_append_15 ?_
    refine malen S hK hP hkt hgt rfl (v := nI 160) rfl dX5_append_18 ?_
    refine lv_icmp_le (tgt := 24) hx hb dX5_append_19 (by decide) (fun c_19 => ?_) (fun c_19 => ?_)
    · skip
      have c_19 := (nI_leI (by omega) (by omega)).mp c_19
      refine lv_iconst (v := nI (0)) hx hb dX5_append_24 (by decide) ?_
      refine lv_istore_n (lv' := [(3, .int (nI (0))), (0, .ref (ad k)), (1, .long (lN vv))]) hx hb dX5_append_25 rfl hl (by decide) rfl (fun ls hl => ?_)
      have L26 : ∀ (fu : Nat) (j : Nat), (j ≤ 8) → (8 - j) < fu → ∀ (g_1 : Nat → va_E) (H : Heap) (locs : List Loc), g_1 kt = .inl (cy 0, 160, .inl (fun x9 => sb_b ((feT T len vv j) x9))) → (∀ j : Nat, j ≠ kt → g_1 j = g j) → MM D ad N g_1 H → va_S (AA ad N) s.heap H locs → ∀ (ls : Array Slot), lv_has ls 4 [(3, .int (nI (j))), (0, .ref (ad k)), (1, .long (lN vv))] → W p l e (rmF 0 0) s m [.ref (ad k), .long (lN vv)].toArray below meth c H locs 0 0 (MQ below (QI (fun r g1 => (r = if len + 8 ≤ 160 then 1 else 0) ∧ g1 k = .inr (5, [.ref (ad kt), .int (nI (if len + 8 ≤ 160 then len + 8 else len)), .int (nI (rd)), .int (nI (kd)), .int (nI (pl0)), .int vl]) ∧ g1 kt = .inl (cy 0, 160, .inl (fun x9 => sb_b ((if len + 8 ≤ 160 then feT T len vv 8 else T) x9))) ∧ (∀ j, j ≠ k → j ≠ kt → g1 j = g j)) D ad N) [.ref (ad k), .long (lN vv)].toArray s 0 0 (AA ad N)) (F0 m 26 ls []) := by
        intro fu
        induction fu with
        | zero => intro j hj hms g_1 H locs hkt_1 hfr_1 hP hS ls hl; exact absurd hms (Nat.not_lt_zero _)
        | succ fu ih26 =>
          intro j hj hms g_1 H locs hkt_1 hfr_1 hP hS ls hl
          have hk_1 : g_1 k = .inr (5, [.ref (ad kt), .int (nI (len)), .int (nI (rd)), .int (nI (kd)), .int (nI (pl0)), .int vl]) := (hfr_1 k (by omega)).trans hg
          refine lv_iload_n hx hb dX5_append_26 rfl (lv_at hl 0 rfl) ?_
          refine lv_bipush (v := nI (8)) hx hb dX5_append_27 (by decide) ?_
          refine lv_icmp_ge (tgt := 60) hx hb dX5_append_29 (by decide) (fun c_29 => ?_) (fun c_29 => ?_)
          · skip
            have c_29 := (nI_leI (by omega) (by omega)).mp c_29
            refine lv_aload_n hx hb dX5_append_60 rfl (lv_at hl 1 rfl) ?_
            refine lv_dup hx hb dX5_append_61 rfl ?_
            refine mg S hK hP hk hk_1 fd_X5_15 rfl dX5_append_62 ?_
            refine lv_bipush (v := nI (8)) hx hb dX5_append_65 (by decide) ?_
            refine lv_iadd hx hb dX5_append_67 ?_
            refine tpi (nI_add len 8) ?_
            refine mp S hK hP hI hS hk hk_1 fd_X5_15 rfl rfl (Nat.le_of_ble_eq_true rfl) dX5_append_68 (fun g_2 H locs eg_2 hP hS => ?_)
            have hk_2 : g_2 k = .inr (5, [.ref (ad kt), .int (nI (len + 8)), .int (nI (rd)), .int (nI (kd)), .int (nI (pl0)), .int vl]) := by rw [eg_2, va_up_self]; exact rfl
            have hkt_2 : g_2 kt = .inl (cy 0, 160, .inl (fun x9 => sb_b ((feT T len vv j) x9))) := ((congrFun eg_2 _).trans (va_up_ne _ _ (by omega))).trans hkt_1
            have hfr_2 : ∀ j : Nat, j ≠ kt → j ≠ k → g_2 j = g j := fun j n0 n1 => ((congrFun eg_2 _).trans (va_up_ne _ _ n1)).trans (hfr_1 j n0)
            refine lv_iconst (v := nI (1)) hx hb dX5_append_71 (by decide) ?_
            exact rMz S hr hlk (by first | exact Or.inl rfl | exact Or.inr rfl) hP hS ⟨(ifT (by omega)), (by rw [if_pos (by omega)]; exact hk_2), (by have e : j = 8 := (by omega); rw [if_pos (by omega), ← e]; rw [e] at hkt_2 ⊢; exact hkt_2), (fun j n0 n1 => hfr_2 j (by omega) (by omega))⟩ dX5_append_72
          · skip
            have c_29 := (not_congr (nI_leI (by omega) (by omega))).mp c_29
            refine lv_aload_n hx hb dX5_append_32 rfl (lv_at hl 1 rfl) ?_
            refine mg S hK hP hk hk_1 fd_X5_9 rfl dX5_append_33 ?_
            refine lv_aload_n hx hb dX5_append_36 rfl (lv_at hl 1 rfl) ?_
            refine mg S hK hP hk hk_1 fd_X5_15 rfl dX5_append_37 ?_
            refine lv_iload_n hx hb dX5_append_40 rfl (lv_at hl 0 rfl) ?_
            refine lv_iadd hx hb dX5_append_41 ?_
            refine tpi (nI_add len j) ?_
            refine lv_lload_n hx hb dX5_append_42 rfl (lv_at hl 2 rfl) ?_
            refine lv_bipush (v := nI (56)) hx hb dX5_append_43 (by decide) ?_
            refine lv_bipush (v := nI (8)) hx hb dX5_append_45 (by decide) ?_
            refine lv_iload_n hx hb dX5_append_47 rfl (lv_at hl 0 rfl) ?_
            refine lv_imul hx hb dX5_append_48 ?_
            refine tpi (pk_mul 8 j) ?_
            refine lv_isub hx hb dX5_append_49 ?_
            refine tpi (pk_sub (a := 56) (b := 8 * j) (by omega)) ?_
            refine lv_lushr hx hb dX5_append_50 rfl ?_
            refine tpl (wb_shr (n := vv) (k := 56 - (8 * j)) hvv (by omega)) ?_
            refine lv_l2i hx hb dX5_append_51 rfl ?_
            refine tpi (lN_i _) ?_
            refine lv_i2b hx hb dX5_append_52 rfl ?_
            refine mbas S hK hP hI hS hkt hkt_1 (vp_in_nI (by omega) (by omega)) dX5_append_53 (fun g_3 H locs eg_3 hP hS => ?_)
            have hkt_3 : g_3 kt = .inl (cy 0, 160, .inl (fun x9 => sb_b ((va_up (feT T len vv j) (len + j) (((vv / 2 ^ (56 - (8 * j)))) % 256)) x9))) := by rw [eg_3, va_up_self]; exact (tb_up (by omega))
            have hk_3 : g_3 k = .inr (5, [.ref (ad kt), .int (nI (len)), .int (nI (rd)), .int (nI (kd)), .int (nI (pl0)), .int vl]) := ((congrFun eg_3 _).trans (va_up_ne _ _ (by omega))).trans hk_1
            have hfr_3 : ∀ j : Nat, j ≠ kt → g_3 j = g j := fun j n0 => ((congrFun eg_3 _).trans (va_up_ne _ _ n0)).trans (hfr_1 j n0)
            refine lv_iinc (v := nI (j + 1)) (lv' := [(3, .int (nI (j + 1))), (0, .ref (ad k)), (1, .long (lN vv))]) hx hb dX5_append_54 hl (k := 0) rfl (by exact nI_add j 1) (by decide) rfl (fun ls hl => ?_)
            refine lv_goto (tgt := 26) hx hb dX5_append_57 (by decide) ?_
            exact ih26 (j + 1) (by omega) (by omega) g_3 _ _ hkt_3 hfr_3 hP hS _ (lv_sub hl [0, 1, 2] rfl)
      exact L26 ((8 - 0) + 1) 0 (by omega) (Nat.lt_succ_self _) g _ _ hgt (fun j n0 => hfr j ) hP hS _ (lv_sub hl [0, 1, 2] rfl)
    · skip
      have c_19 := (not_congr (nI_leI (by omega) (by omega))).mp c_19
      refine lv_iconst (v := nI (0)) hx hb dX5_append_22 (by decide) ?_
      exact rMz S hr hlk (by first | exact Or.inl rfl | exact Or.inr rfl) hP hS ⟨(ifF (by omega)), (by rw [if_neg (by omega)]; exact hg), (by rw [if_neg (by omega)]; exact hgt), (fun j n0 n1 => hfr j )⟩ dX5_append_23
set_option maxHeartbeats 4000000 in
set_option maxRecDepth 100000 in
theorem c_X5_byteAt (l : Launch) (D : va_G) (cy : Nat → ClassId) (ad : Nat → Nat) (N : Nat) (g : Nat → va_E) (k : Nat) (hk : k < N) (kt : Nat) (hkt : kt < N) (len : Nat) (rd : Nat) (kd : Nat) (pl0 : Nat) (vl : Int32) (T : Nat → Nat) (hg : g k = .inr (5, [.ref (ad kt), .int (nI (len)), .int (nI (rd)), .int (nI (kd)), .int (nI (pl0)), .int vl])) (hgt : g kt = .inl (cy 0, 160, .inl (fun x9 => sb_b (T x9)))) (hkk : k ≠ kt) (hlen : len ≤ 160) (hT : ∀ i, T i < 256) (p0 : Nat) (hp0 : p0 < 2 ^ 31) : Met l yX5_byteAt (WS yX5_byteAt cX5_byteAt 2 (some .int)) (rmF 0 0) (PP [.ref (ad k), .int (nI (p0))] D cy ad N g) (vp_Si (fun r => r = byI T len p0)) 0 0 (fun _ => False) := by
  refine mentry (by decide) (Nat.le_of_ble_eq_true rfl) (fun p e s m below meth c ls S hr hlk hnm hP hK hl => ?_)
  have S : CallFix p m c cX5_byteAt 2 s _ wsL_law RX5 := S
  have hx := S.1
  have hb := S.2.1
  have hl : lv_has ls 2 [(0, .ref (ad k)), (1, .int (nI (p0)))] := hl
  refine lv_iload_n hx hb dX5_byteAt_0 rfl (lv_at hl 1 rfl) ?_
  refine lv_if_lt (tgt := 34) hx hb dX5_byteAt_1 (by decide) (fun c_1 => ?_) (fun c_1 => ?_)
  · skip
    have c_1 := (z_lt (by omega)).mp c_1
    exact c_1.elim
  · skip
    have c_1 := (not_congr (z_lt (by omega))).mp c_1
    refine lv_iload_n hx hb dX5_byteAt_4 rfl (lv_at hl 1 rfl) ?_
    refine lv_aload_n hx hb dX5_byteAt_5 rfl (lv_at hl 0 rfl) ?_
    refine mg S hK hP hk hg fd_X5_15 rfl dX5_byteAt_6 ?_
    refine lv_icmp_ge (tgt := 34) hx hb dX5_byteAt_9 (by decide) (fun c_9 => ?_) (fun c_9 => ?_)
    · skip
      have c_9 := (nI_leI (by omega) (by omega)).mp c_9
      refine lv_iconst (v := (-1)) hx hb dX5_byteAt_34 (by decide) ?_
      exact rSi S hr hlk (byI_out (by omega)).symm dX5_byteAt_35
    · skip
      have c_9 := (not_congr (nI_leI (by omega) (by omega))).mp c_9
      refine lv_iload_n hx hb dX5_byteAt_12 rfl (lv_at hl 1 rfl) ?_
      refine lv_aload_n hx hb dX5_byteAt_13 rfl (lv_at hl 0 rfl) ?_
      refine mg S hK hP hk hg fd_X5_9 rfl dX5_byteAt_14 ?_
      refine malen S hK hP hkt hgt rfl (v := nI 160) rfl dX5_byteAt_17 ?_
      refine lv_icmp_ge (tgt := 34) hx hb dX5_byteAt_18 (by decide) (fun c_18 => ?_) (fun c_18 => ?_)
      · skip
        have c_18 := (nI_leI (by omega) (by omega)).mp c_18
        exact absurd c_18 (by omega)
      · skip
        have c_18 := (not_congr (nI_leI (by omega) (by omega))).mp c_18
        refine lv_aload_n hx hb dX5_byteAt_21 rfl (lv_at hl 0 rfl) ?_
        refine mg S hK hP hk hg fd_X5_9 rfl dX5_byteAt_22 ?_
        refine lv_iload_n hx hb dX5_byteAt_25 rfl (lv_at hl 1 rfl) ?_
        refine mbal S hK hP hkt hgt (vp_in_nI (by omega) (by omega)) dX5_byteAt_26 ?_
        refine tpi (congrArg ((fun x9 => sb_b (T x9))) (nI_clamp (by omega))) ?_
        refine lv_sipush (v := nI (255)) hx hb dX5_byteAt_27 (by decide) ?_
        refine lv_iand hx hb dX5_byteAt_30 ?_
        refine tpi (sb_255 (hT p0)) ?_
        refine lv_goto (tgt := 35) hx hb dX5_byteAt_31 (by decide) ?_
        exact rSi S hr hlk (byI_in (by omega)).symm dX5_byteAt_35
set_option maxHeartbeats 4000000 in
set_option maxRecDepth 100000 in
theorem c_X5_rewind (l : Launch) (D : va_G) (cy : Nat → ClassId) (ad : Nat → Nat) (N : Nat) (g : Nat → va_E) (hinj : ∀ i j : Nat, i < N → j < N → ad i = ad j → i = j) (k : Nat) (hk : k < N) (kt : Nat) (hkt : kt < N) (len : Nat) (rd : Nat) (kd : Nat) (pl0 : Nat) (vl : Int32) (T : Nat → Nat) (hg : g k = .inr (5, [.ref (ad kt), .int (nI (len)), .int (nI (rd)), .int (nI (kd)), .int (nI (pl0)), .int vl])) (hgt : g kt = .inl (cy 0, 160, .inl (fun x9 => sb_b (T x9)))) (hkk : k ≠ kt) (hlen : len ≤ 160) (hT : ∀ i, T i < 256) : Met l yX5_rewind (WS yX5_rewind cX5_rewind 1 none) (rmF 0 0) (PP [.ref (ad k)] D cy ad N g) (QV (fun g1 => g1 k = .inr (5, [.ref (ad kt), .int (nI (len)), .int (nI (0)), .int (nI (kd)), .int (nI (pl0)), .int vl]) ∧ (∀ j, j ≠ k → g1 j = g j)) D ad N) 0 0 (AA ad N) := by
  refine mentry (by decide) (Nat.le_of_ble_eq_true rfl) (fun p e s m below meth c ls S hr hlk hnm hP hK hl => ?_)
  have S : CallFix p m c cX5_rewind 1 s _ wsL_law RX5 := S
  have hx := S.1
  have hb := S.2.1
  have hl : lv_has ls 1 [(0, .ref (ad k))] := hl
  have hI : MD (AA ad N) ad N := MD.in hinj
  have hS : va_S (AA ad N) s.heap s.heap [] := va_S.rf
  have hfr : ∀ j : Nat, g j = g j := fun _ => rfl
  refine lv_aload_n hx hb dX5_rewind_0 rfl (lv_at hl 0 rfl) ?_
  refine lv_iconst (v := nI (0)) hx hb dX5_rewind_1 (by decide) ?_
  refine mp S hK hP hI hS hk hg fd_X5_19 rfl rfl (Nat.le_of_ble_eq_true rfl) dX5_rewind_2 (fun g_1 H locs eg_1 hP hS => ?_)
  have hk_1 : g_1 k = .inr (5, [.ref (ad kt), .int (nI (len)), .int (nI (0)), .int (nI (kd)), .int (nI (pl0)), .int vl]) := by rw [eg_1, va_up_self]; exact rfl
  have hkt_1 : g_1 kt = .inl (cy 0, 160, .inl (fun x9 => sb_b (T x9))) := ((congrFun eg_1 _).trans (va_up_ne _ _ (by omega))).trans hgt
  have hfr_1 : ∀ j : Nat, j ≠ k → g_1 j = g j := fun j n0 => ((congrFun eg_1 _).trans (va_up_ne _ _ n0)).trans (hfr j )
  exact rMv S hr hlk hP hS ⟨hk_1, hfr_1⟩ dX5_rewind_5
set_option maxHeartbeats 4000000 in
set_option maxRecDepth 100000 in
theorem c_X5_isDigit (l : Launch) (D : va_G) (cy : Nat → ClassId) (ad : Nat → Nat) (N : Nat) (g : Nat → va_E) (k : Nat) (s0 : Int32) : Met l yX5_isDigit (WS yX5_isDigit cX5_isDigit 2 (some .boolean)) (rmF 0 0) (PP [.ref (ad k), .int s0] D cy ad N g) (vp_Si (fun r => r = if (48 ≤ s0 ∧ s0 ≤ 57) then 1 else 0)) 0 0 (fun _ => False) := by
  refine mentry (by decide) (Nat.le_of_ble_eq_true rfl) (fun p e s m below meth c ls S hr hlk hnm hP hK hl => ?_)
  have S : CallFix p m c cX5_isDigit 2 s _ wsL_law RX5 := S
  have hx := S.1
  have hb := S.2.1
  have hl : lv_has ls 2 [(0, .ref (ad k)), (1, .int s0)] := hl
  refine lv_iload_n hx hb dX5_isDigit_0 rfl (lv_at hl 1 rfl) ?_
  refine lv_bipush (v := nI (48)) hx hb dX5_isDigit_1 (by decide) ?_
  refine lv_icmp_lt (tgt := 16) hx hb dX5_isDigit_3 (by decide) (fun c_3 => ?_) (fun c_3 => ?_)
  · skip
    refine lv_iconst (v := nI (0)) hx hb dX5_isDigit_16 (by decide) ?_
    exact rSz S hr hlk (by first | exact Or.inl rfl | exact Or.inr rfl) (ifF (fun q => by first | exact absurd q.1 (Int32.not_le.mpr c_3) | exact absurd q.2 (Int32.not_le.mpr c_9))) dX5_isDigit_17
  · skip
    refine lv_iload_n hx hb dX5_isDigit_6 rfl (lv_at hl 1 rfl) ?_
    refine lv_bipush (v := nI (57)) hx hb dX5_isDigit_7 (by decide) ?_
    refine lv_icmp_gt (tgt := 16) hx hb dX5_isDigit_9 (by decide) (fun c_9 => ?_) (fun c_9 => ?_)
    · skip
      refine lv_iconst (v := nI (0)) hx hb dX5_isDigit_16 (by decide) ?_
      exact rSz S hr hlk (by first | exact Or.inl rfl | exact Or.inr rfl) (ifF (fun q => by first | exact absurd q.1 (Int32.not_le.mpr c_3) | exact absurd q.2 (Int32.not_le.mpr c_9))) dX5_isDigit_17
    · skip
      refine lv_iconst (v := nI (1)) hx hb dX5_isDigit_12 (by decide) ?_
      refine lv_goto (tgt := 17) hx hb dX5_isDigit_13 (by decide) ?_
      exact rSz S hr hlk (by first | exact Or.inl rfl | exact Or.inr rfl) (ifT ⟨Int32.not_lt.mp c_3, Int32.not_lt.mp c_9⟩) dX5_isDigit_17
set_option maxHeartbeats 4000000 in
set_option maxRecDepth 100000 in
theorem c_X5_kindOf (l : Launch) (D : va_G) (cy : Nat → ClassId) (ad : Nat → Nat) (N : Nat) (g : Nat → va_E) (k : Nat) (s0 : Int32) : Met l yX5_kindOf (WS yX5_kindOf cX5_kindOf 2 (some .int)) (rmF 0 0) (PP [.ref (ad k), .int s0] D cy ad N g) (vp_Si (fun r => r = nI (knd s0))) 0 0 (fun _ => False) := by
  refine mentry (by decide) (Nat.le_of_ble_eq_true rfl) (fun p e s m below meth c ls S hr hlk hnm hP hK hl => ?_)
  have S : CallFix p m c cX5_kindOf 2 s _ wsL_law RX5 := S
  have hx := S.1
  have hb := S.2.1
  have hl : lv_has ls 2 [(0, .ref (ad k)), (1, .int s0)] := hl
  refine lv_iload_n hx hb dX5_kindOf_0 rfl (lv_at hl 1 rfl) ?_
  by_cases e1_40 : s0 = nI 40
  · subst e1_40
    refine lv_lookup (tgt := 36) hx hb dX5_kindOf_1 (by decide) rfl (by decide) ?_
    refine lv_iconst (v := nI (2)) hx hb dX5_kindOf_36 (by decide) ?_
    exact rSi S hr hlk (by unfold knd; first | rfl | rw [if_neg e1_40, if_neg e1_41, if_neg e1_46]) dX5_kindOf_37
  by_cases e1_41 : s0 = nI 41
  · subst e1_41
    refine lv_lookup (tgt := 38) hx hb dX5_kindOf_1 (by decide) rfl (by decide) ?_
    refine lv_iconst (v := nI (3)) hx hb dX5_kindOf_38 (by decide) ?_
    exact rSi S hr hlk (by unfold knd; first | rfl | rw [if_neg e1_40, if_neg e1_41, if_neg e1_46]) dX5_kindOf_39
  by_cases e1_46 : s0 = nI 46
  · subst e1_46
    refine lv_lookup (tgt := 40) hx hb dX5_kindOf_1 (by decide) rfl (by decide) ?_
    refine lv_iconst (v := nI (4)) hx hb dX5_kindOf_40 (by decide) ?_
    exact rSi S hr hlk (by unfold knd; first | rfl | rw [if_neg e1_40, if_neg e1_41, if_neg e1_46]) dX5_kindOf_41
  refine lv_lookup (off := 41) (tgt := 42) hx hb dX5_kindOf_1 (by decide) ((lv_osw e1_40 rfl).trans ((lv_osw e1_41 rfl).trans ((lv_osw e1_46 rfl).trans (rfl)))) (by decide) ?_
  refine lv_bipush (v := nI (6)) hx hb dX5_kindOf_42 (by decide) ?_
  exact rSi S hr hlk (by unfold knd; first | rfl | rw [if_neg e1_40, if_neg e1_41, if_neg e1_46]) dX5_kindOf_44
set_option maxHeartbeats 4000000 in
set_option maxRecDepth 100000 in
theorem c_X5_readNumber (l : Launch) (D : va_G) (cy : Nat → ClassId) (ad : Nat → Nat) (N : Nat) (g : Nat → va_E) (hinj : ∀ i j : Nat, i < N → j < N → ad i = ad j → i = j) (k : Nat) (hk : k < N) (kt : Nat) (hkt : kt < N) (len : Nat) (rd : Nat) (kd : Nat) (pl0 : Nat) (vl : Int32) (T : Nat → Nat) (hg : g k = .inr (5, [.ref (ad kt), .int (nI (len)), .int (nI (rd)), .int (nI (kd)), .int (nI (pl0)), .int vl])) (hgt : g kt = .inl (cy 0, 160, .inl (fun x9 => sb_b (T x9)))) (hkk : k ≠ kt) (hlen : len ≤ 160) (hT : ∀ i, T i < 256) (hrd : rd < len) (hdg : dg (T rd) = true) : Met l yX5_readNumber (WS yX5_readNumber cX5_readNumber 3 none) (rmF 1 21) (PP [.ref (ad k)] D cy ad N g) (QV (fun g1 => g1 k = .inr (5, [.ref (ad kt), .int (nI (len)), .int (nI (dgE T len rd)), .int (nI (if dgE T len rd - rd ≤ 2 then 1 else 6)), .int (nI (pl0)), .int (nI (nuV T rd (dgE T len rd - rd)))]) ∧ (∀ j, j ≠ k → g1 j = g j)) D ad N) 0 0 (AA ad N) := by
  refine mentry (by decide) (Nat.le_of_ble_eq_true rfl) (fun p e s m below meth c ls S hr hlk hnm hP hK hl => ?_)
  have S : CallFix p m c cX5_readNumber 3 s _ wsL_law RX5 := S
  have hx := S.1
  have hb := S.2.1
  have hl : lv_has ls 3 [(0, .ref (ad k))] := hl
  have hI : MD (AA ad N) ad N := MD.in hinj
  have hS : va_S (AA ad N) s.heap s.heap [] := va_S.rf
  have hfr : ∀ j : Nat, g j = g j := fun _ => rfl
  refine lv_iconst (v := nI (0)) hx hb dX5_readNumber_0 (by decide) ?_
  refine lv_istore_n (lv' := [(1, .int (nI (0))), (0, .ref (ad k))]) hx hb dX5_readNumber_1 rfl hl (by decide) rfl (fun ls hl => ?_)
  refine lv_aload_n hx hb dX5_readNumber_2 rfl (lv_at hl 1 rfl) ?_
  refine lv_iconst (v := nI (0)) hx hb dX5_readNumber_3 (by decide) ?_
  refine mp S hK hP hI hS hk hg fd_X5_46 rfl rfl (Nat.le_of_ble_eq_true rfl) dX5_readNumber_4 (fun g_1 H locs eg_1 hP hS => ?_)
  have hk_1 : g_1 k = .inr (5, [.ref (ad kt), .int (nI (len)), .int (nI (rd)), .int (nI (kd)), .int (nI (pl0)), .int (nI (0))]) := by rw [eg_1, va_up_self]; exact rfl
  have hkt_1 : g_1 kt = .inl (cy 0, 160, .inl (fun x9 => sb_b (T x9))) := ((congrFun eg_1 _).trans (va_up_ne _ _ (by omega))).trans hgt
  have hfr_1 : ∀ j : Nat, j ≠ k → g_1 j = g j := fun j n0 => ((congrFun eg_1 _).trans (va_up_ne _ _ n0)).trans (hfr j )
  refine lv_iconst (v := nI (0)) hx hb dX5_readNumber_7 (by decide) ?_
  refine lv_istore_n (lv' := [(2, .int (nI (0))), (1, .int (nI (0))), (0, .ref (ad k))]) hx hb dX5_readNumber_8 rfl hl (by decide) rfl (fun ls hl => ?_)
  have L9 : ∀ (fu : Nat) (j : Nat), (rd + j ≤ len) → (∀ i, rd ≤ i → i < rd + j → (!dg (T i)) = false) → (len - j) < fu → ∀ (g_2 : Nat → va_E) (H : Heap) (locs : List Loc), g_2 k = .inr (5, [.ref (ad kt), .int (nI (len)), .int (nI (rd + j)), .int (nI (kd)), .int (nI (pl0)), .int (nI (nuV T rd j))]) → (∀ j : Nat, j ≠ k → g_2 j = g j) → MM D ad N g_2 H → va_S (AA ad N) s.heap H locs → ∀ (ls : Array Slot), lv_has ls 3 [(2, .int (nI (j))), (1, .int (nI (j))), (0, .ref (ad k))] → W p l e (rmF 1 21) s m [.ref (ad k)].toArray below meth c H locs 0 0 (MQ below (QV (fun g1 => g1 k = .inr (5, [.ref (ad kt), .int (nI (len)), .int (nI (dgE T len rd)), .int (nI (if dgE T len rd - rd ≤ 2 then 1 else 6)), .int (nI (pl0)), .int (nI (nuV T rd (dgE T len rd - rd)))]) ∧ (∀ j, j ≠ k → g1 j = g j)) D ad N) [.ref (ad k)].toArray s 0 0 (AA ad N)) (F0 m 9 ls []) := by
    intro fu
    induction fu with
    | zero => intro j hj hno hms g_2 H locs hk_2 hfr_2 hP hS ls hl; exact absurd hms (Nat.not_lt_zero _)
    | succ fu ih9 =>
      intro j hj hno hms g_2 H locs hk_2 hfr_2 hP hS ls hl
      have hkt_2 : g_2 kt = .inl (cy 0, 160, .inl (fun x9 => sb_b (T x9))) := (hfr_2 kt (by omega)).trans hgt
      refine lv_iload_n hx hb dX5_readNumber_9 rfl (lv_at hl 0 rfl) ?_
      refine lv_sipush (v := nI (160)) hx hb dX5_readNumber_10 (by decide) ?_
      refine lv_icmp_ge (tgt := 85) hx hb dX5_readNumber_13 (by decide) (fun c_13 => ?_) (fun c_13 => ?_)
      · skip
        have c_13 := (nI_leI (by omega) (by omega)).mp c_13
        refine lv_aload_n hx hb dX5_readNumber_85 rfl (lv_at hl 2 rfl) ?_
        refine lv_iload_n hx hb dX5_readNumber_86 rfl (lv_at hl 1 rfl) ?_
        refine lv_iconst (v := nI (2)) hx hb dX5_readNumber_87 (by decide) ?_
        refine lv_icmp_gt (tgt := 95) hx hb dX5_readNumber_88 (by decide) (fun c_88 => ?_) (fun c_88 => ?_)
        · skip
          have c_88 := (nI_ltI (by omega) (by omega)).mp c_88
          refine lv_bipush (v := nI (6)) hx hb dX5_readNumber_95 (by decide) ?_
          refine mp S hK hP hI hS hk hk_2 fd_X5_36 rfl rfl (Nat.le_of_ble_eq_true rfl) dX5_readNumber_97 (fun g_3 H locs eg_3 hP hS => ?_)
          have hk_3 : g_3 k = .inr (5, [.ref (ad kt), .int (nI (len)), .int (nI (rd + j)), .int (nI (6)), .int (nI (pl0)), .int (nI (nuV T rd j))]) := by rw [eg_3, va_up_self]; exact rfl
          have hkt_3 : g_3 kt = .inl (cy 0, 160, .inl (fun x9 => sb_b (T x9))) := ((congrFun eg_3 _).trans (va_up_ne _ _ (by omega))).trans hkt_2
          have hfr_3 : ∀ j : Nat, j ≠ k → g_3 j = g j := fun j n0 => ((congrFun eg_3 _).trans (va_up_ne _ _ n0)).trans (hfr_2 j n0)
          have hE : dgE T len rd = rd + j := by rcases Nat.lt_or_ge (rd + j) len with q | q; (first | exact absurd q (by omega) | exact fsr_stop (by omega) q hno (by cases z : dg (T (rd + j)) with | true => exact absurd ⟨q, z⟩ hbd | false => rfl)); have e : rd + j = len := (by omega); rw [e]; exact fsr_none (by omega) (fun i a b => hno i a (by omega))
          exact rMv S hr hlk hP hS ⟨(by rw [hE, show rd + j - rd = j by omega]; first | (rw [if_pos (by omega)]; exact hk_3) | (rw [if_neg (by omega)]; exact hk_3)), hfr_3⟩ dX5_readNumber_100
        · skip
          have c_88 := (not_congr (nI_ltI (by omega) (by omega))).mp c_88
          refine lv_iconst (v := nI (1)) hx hb dX5_readNumber_91 (by decide) ?_
          refine lv_goto (tgt := 97) hx hb dX5_readNumber_92 (by decide) ?_
          refine mp S hK hP hI hS hk hk_2 fd_X5_36 rfl rfl (Nat.le_of_ble_eq_true rfl) dX5_readNumber_97 (fun g_4 H locs eg_4 hP hS => ?_)
          have hk_4 : g_4 k = .inr (5, [.ref (ad kt), .int (nI (len)), .int (nI (rd + j)), .int (nI (1)), .int (nI (pl0)), .int (nI (nuV T rd j))]) := by rw [eg_4, va_up_self]; exact rfl
          have hkt_4 : g_4 kt = .inl (cy 0, 160, .inl (fun x9 => sb_b (T x9))) := ((congrFun eg_4 _).trans (va_up_ne _ _ (by omega))).trans hkt_2
          have hfr_4 : ∀ j : Nat, j ≠ k → g_4 j = g j := fun j n0 => ((congrFun eg_4 _).trans (va_up_ne _ _ n0)).trans (hfr_2 j n0)
          have hE : dgE T len rd = rd + j := by rcases Nat.lt_or_ge (rd + j) len with q | q; (first | exact absurd q (by omega) | exact fsr_stop (by omega) q hno (by cases z : dg (T (rd + j)) with | true => exact absurd ⟨q, z⟩ hbd | false => rfl)); have e : rd + j = len := (by omega); rw [e]; exact fsr_none (by omega) (fun i a b => hno i a (by omega))
          exact rMv S hr hlk hP hS ⟨(by rw [hE, show rd + j - rd = j by omega]; first | (rw [if_pos (by omega)]; exact hk_4) | (rw [if_neg (by omega)]; exact hk_4)), hfr_4⟩ dX5_readNumber_100
      · skip
        have c_13 := (not_congr (nI_leI (by omega) (by omega))).mp c_13
        refine lv_aload_n hx hb dX5_readNumber_16 rfl (lv_at hl 2 rfl) ?_
        refine lv_aload_n hx hb dX5_readNumber_17 rfl (lv_at hl 2 rfl) ?_
        refine lv_aload_n hx hb dX5_readNumber_18 rfl (lv_at hl 2 rfl) ?_
        refine mg S hK hP hk hk_2 fd_X5_19 rfl dX5_readNumber_19 ?_
        refine kVi (As := [.int (nI (rd + j))]) (rest := [.ref (ad k)]) S hK hP (c_X5_byteAt l D cy ad N g_2 k hk kt hkt len (rd + j) kd pl0 (nI (nuV T rd j)) T hk_2 hkt_2 (by omega) hlen hT (rd + j) (by omega)) cv_X5_22 hk hk_2 ⟨_, _, rfl⟩ ⟨rfl, rfl⟩ rfl hl.1 rfl (Nat.le_of_ble_eq_true rfl) ⟨Nat.zero_le _, Nat.zero_le _⟩ dX5_readNumber_22 (fun r_22 q_22 => ?_)
        subst q_22
        refine kVi (As := [.int (byI T len (rd + j))]) (rest := []) S hK hP (c_X5_isDigit l D cy ad N g_2 k (byI T len (rd + j))) cv_X5_29 hk hk_2 ⟨_, _, rfl⟩ ⟨rfl, rfl⟩ rfl hl.1 rfl (Nat.le_of_ble_eq_true rfl) ⟨Nat.zero_le _, Nat.zero_le _⟩ dX5_readNumber_25 (fun r_25 q_25 => ?_)
        subst q_25
        refine lv_if_eq (tgt := 85) hx hb dX5_readNumber_28 (by decide) (fun c_28 => ?_) (fun c_28 => ?_)
        · skip
          have c_28 := bz_eq.mp c_28
          have hbd := fun q => c_28 ((byI_dg hT).mpr q)
          refine lv_aload_n hx hb dX5_readNumber_85 rfl (lv_at hl 2 rfl) ?_
          refine lv_iload_n hx hb dX5_readNumber_86 rfl (lv_at hl 1 rfl) ?_
          refine lv_iconst (v := nI (2)) hx hb dX5_readNumber_87 (by decide) ?_
          refine lv_icmp_gt (tgt := 95) hx hb dX5_readNumber_88 (by decide) (fun c_88 => ?_) (fun c_88 => ?_)
          · skip
            have c_88 := (nI_ltI (by omega) (by omega)).mp c_88
            refine lv_bipush (v := nI (6)) hx hb dX5_readNumber_95 (by decide) ?_
            refine mp S hK hP hI hS hk hk_2 fd_X5_36 rfl rfl (Nat.le_of_ble_eq_true rfl) dX5_readNumber_97 (fun g_5 H locs eg_5 hP hS => ?_)
            have hk_5 : g_5 k = .inr (5, [.ref (ad kt), .int (nI (len)), .int (nI (rd + j)), .int (nI (6)), .int (nI (pl0)), .int (nI (nuV T rd j))]) := by rw [eg_5, va_up_self]; exact rfl
            have hkt_5 : g_5 kt = .inl (cy 0, 160, .inl (fun x9 => sb_b (T x9))) := ((congrFun eg_5 _).trans (va_up_ne _ _ (by omega))).trans hkt_2
            have hfr_5 : ∀ j : Nat, j ≠ k → g_5 j = g j := fun j n0 => ((congrFun eg_5 _).trans (va_up_ne _ _ n0)).trans (hfr_2 j n0)
            have hE : dgE T len rd = rd + j := by rcases Nat.lt_or_ge (rd + j) len with q | q; (first | exact absurd q (by omega) | exact fsr_stop (by omega) q hno (by cases z : dg (T (rd + j)) with | true => exact absurd ⟨q, z⟩ hbd | false => rfl)); have e : rd + j = len := (by omega); rw [e]; exact fsr_none (by omega) (fun i a b => hno i a (by omega))
            exact rMv S hr hlk hP hS ⟨(by rw [hE, show rd + j - rd = j by omega]; first | (rw [if_pos (by omega)]; exact hk_5) | (rw [if_neg (by omega)]; exact hk_5)), hfr_5⟩ dX5_readNumber_100
          · skip
            have c_88 := (not_congr (nI_ltI (by omega) (by omega))).mp c_88
            refine lv_iconst (v := nI (1)) hx hb dX5_readNumber_91 (by decide) ?_
            refine lv_goto (tgt := 97) hx hb dX5_readNumber_92 (by decide) ?_
            refine mp S hK hP hI hS hk hk_2 fd_X5_36 rfl rfl (Nat.le_of_ble_eq_true rfl) dX5_readNumber_97 (fun g_6 H locs eg_6 hP hS => ?_)
            have hk_6 : g_6 k = .inr (5, [.ref (ad kt), .int (nI (len)), .int (nI (rd + j)), .int (nI (1)), .int (nI (pl0)), .int (nI (nuV T rd j))]) := by rw [eg_6, va_up_self]; exact rfl
            have hkt_6 : g_6 kt = .inl (cy 0, 160, .inl (fun x9 => sb_b (T x9))) := ((congrFun eg_6 _).trans (va_up_ne _ _ (by omega))).trans hkt_2
            have hfr_6 : ∀ j : Nat, j ≠ k → g_6 j = g j := fun j n0 => ((congrFun eg_6 _).trans (va_up_ne _ _ n0)).trans (hfr_2 j n0)
            have hE : dgE T len rd = rd + j := by rcases Nat.lt_or_ge (rd + j) len with q | q; (first | exact absurd q (by omega) | exact fsr_stop (by omega) q hno (by cases z : dg (T (rd + j)) with | true => exact absurd ⟨q, z⟩ hbd | false => rfl)); have e : rd + j = len := (by omega); rw [e]; exact fsr_none (by omega) (fun i a b => hno i a (by omega))
            exact rMv S hr hlk hP hS ⟨(by rw [hE, show rd + j - rd = j by omega]; first | (rw [if_pos (by omega)]; exact hk_6) | (rw [if_neg (by omega)]; exact hk_6)), hfr_6⟩ dX5_readNumber_100
        · skip
          have c_28 := bz_ne.mp c_28
          have hbd := (byI_dg hT).mp c_28
          refine lv_aload_n hx hb dX5_readNumber_31 rfl (lv_at hl 2 rfl) ?_
          refine lv_iload_n hx hb dX5_readNumber_32 rfl (lv_at hl 1 rfl) ?_
          refine lv_iconst (v := nI (2)) hx hb dX5_readNumber_33 (by decide) ?_
          have J63 : ∀ (z0 : Nat), (z0 = nuV T rd (j + 1)) → ∀ (ls : Array Slot), lv_has ls 3 [(2, .int (nI (j))), (1, .int (nI (j))), (0, .ref (ad k))] → W p l e (rmF 1 21) s m [.ref (ad k)].toArray below meth c H locs 0 0 (MQ below (QV (fun g1 => g1 k = .inr (5, [.ref (ad kt), .int (nI (len)), .int (nI (dgE T len rd)), .int (nI (if dgE T len rd - rd ≤ 2 then 1 else 6)), .int (nI (pl0)), .int (nI (nuV T rd (dgE T len rd - rd)))]) ∧ (∀ j, j ≠ k → g1 j = g j)) D ad N) [.ref (ad k)].toArray s 0 0 (AA ad N)) (F0 m 63 ls [.int (nI (z0)), .ref (ad k)]) := by
            intro z0 hz ls hl
            refine mp S hK hP hI hS hk hk_2 fd_X5_46 rfl rfl (Nat.le_of_ble_eq_true rfl) dX5_readNumber_63 (fun g_7 H locs eg_7 hP hS => ?_)
            have hk_7 : g_7 k = .inr (5, [.ref (ad kt), .int (nI (len)), .int (nI (rd + j)), .int (nI (kd)), .int (nI (pl0)), .int (nI (z0))]) := by rw [eg_7, va_up_self]; exact rfl
            have hkt_7 : g_7 kt = .inl (cy 0, 160, .inl (fun x9 => sb_b (T x9))) := ((congrFun eg_7 _).trans (va_up_ne _ _ (by omega))).trans hkt_2
            have hfr_7 : ∀ j : Nat, j ≠ k → g_7 j = g j := fun j n0 => ((congrFun eg_7 _).trans (va_up_ne _ _ n0)).trans (hfr_2 j n0)
            refine lv_iinc (v := nI (j + 1)) (lv' := [(1, .int (nI (j + 1))), (2, .int (nI (j))), (0, .ref (ad k))]) hx hb dX5_readNumber_66 hl (k := 1) rfl (by exact nI_add j 1) (by decide) rfl (fun ls hl => ?_)
            refine lv_aload_n hx hb dX5_readNumber_69 rfl (lv_at hl 2 rfl) ?_
            refine lv_dup hx hb dX5_readNumber_70 rfl ?_
            refine mg S hK hP hk hk_7 fd_X5_19 rfl dX5_readNumber_71 ?_
            refine lv_iconst (v := nI (1)) hx hb dX5_readNumber_74 (by decide) ?_
            refine lv_iadd hx hb dX5_readNumber_75 ?_
            refine tpi (nI_add (rd + j) 1) ?_
            refine mp S hK hP hI hS hk hk_7 fd_X5_19 rfl rfl (Nat.le_of_ble_eq_true rfl) dX5_readNumber_76 (fun g_8 H locs eg_8 hP hS => ?_)
            have hk_8 : g_8 k = .inr (5, [.ref (ad kt), .int (nI (len)), .int (nI ((rd + j) + 1)), .int (nI (kd)), .int (nI (pl0)), .int (nI (z0))]) := by rw [eg_8, va_up_self]; exact rfl
            have hkt_8 : g_8 kt = .inl (cy 0, 160, .inl (fun x9 => sb_b (T x9))) := ((congrFun eg_8 _).trans (va_up_ne _ _ (by omega))).trans hkt_7
            have hfr_8 : ∀ j : Nat, j ≠ k → g_8 j = g j := fun j n0 => ((congrFun eg_8 _).trans (va_up_ne _ _ n0)).trans (hfr_7 j n0)
            refine lv_iinc (v := nI (j + 1)) (lv' := [(2, .int (nI (j + 1))), (1, .int (nI (j + 1))), (0, .ref (ad k))]) hx hb dX5_readNumber_79 hl (k := 1) rfl (by exact nI_add j 1) (by decide) rfl (fun ls hl => ?_)
            refine lv_goto (tgt := 9) hx hb dX5_readNumber_82 (by decide) ?_
            exact ih9 (j + 1) (by omega) (fun i a b => by rcases Nat.lt_or_ge i (rd + j) with q | q; exact hno i a q; rw [show i = rd + j by omega, hbd.2]; rfl) (by omega) g_8 _ _ (by rw [hz] at hk_8; exact hk_8) hfr_8 hP hS _ (lv_sub hl [0, 1, 2] rfl)
          refine lv_icmp_ge (tgt := 59) hx hb dX5_readNumber_34 (by decide) (fun c_34 => ?_) (fun c_34 => ?_)
          · skip
            have c_34 := (nI_leI (by omega) (by omega)).mp c_34
            refine lv_aload_n hx hb dX5_readNumber_59 rfl (lv_at hl 2 rfl) ?_
            refine mg S hK hP hk hk_2 fd_X5_46 rfl dX5_readNumber_60 ?_
            refine tpi (rfl) ?_
            exact J63 (nuV T rd j) (by show _ = ite _ _ _; rw [if_neg (by omega)]) _ (lv_sub hl [0, 1, 2] rfl)
          · skip
            have c_34 := (not_congr (nI_leI (by omega) (by omega))).mp c_34
            refine lv_bipush (v := nI (10)) hx hb dX5_readNumber_37 (by decide) ?_
            refine lv_aload_n hx hb dX5_readNumber_39 rfl (lv_at hl 2 rfl) ?_
            refine mg S hK hP hk hk_2 fd_X5_46 rfl dX5_readNumber_40 ?_
            refine tpi (rfl) ?_
            have hnv := nuV_lt (q := rd) hT j
            refine lv_imul hx hb dX5_readNumber_43 ?_
            refine tpi (pk_mul 10 (nuV T rd j)) ?_
            refine lv_aload_n hx hb dX5_readNumber_44 rfl (lv_at hl 2 rfl) ?_
            refine lv_aload_n hx hb dX5_readNumber_45 rfl (lv_at hl 2 rfl) ?_
            refine mg S hK hP hk hk_2 fd_X5_19 rfl dX5_readNumber_46 ?_
            refine kVi (As := [.int (nI (rd + j))]) (rest := [.int (nI (10 * nuV T rd j)), .ref (ad k)]) S hK hP (c_X5_byteAt l D cy ad N g_2 k hk kt hkt len (rd + j) kd pl0 (nI (nuV T rd j)) T hk_2 hkt_2 (by omega) hlen hT (rd + j) (by omega)) cv_X5_22 hk hk_2 ⟨_, _, rfl⟩ ⟨rfl, rfl⟩ rfl hl.1 rfl (Nat.le_of_ble_eq_true rfl) ⟨Nat.zero_le _, Nat.zero_le _⟩ dX5_readNumber_49 (fun r_49 q_49 => ?_)
            subst q_49
            refine tpi (byI_in hbd.1) ?_
            have hTj := hT (rd + j)
            refine lv_iadd hx hb dX5_readNumber_52 ?_
            refine tpi (nI_add (10 * nuV T rd j) (T (rd + j))) ?_
            refine lv_bipush (v := nI (48)) hx hb dX5_readNumber_53 (by decide) ?_
            have hd48 : 48 ≤ T (rd + j) := by have := hbd.2; unfold dg at this; simp at this; exact this.1
            refine lv_isub hx hb dX5_readNumber_55 ?_
            refine tpi (pk_sub (a := (10 * nuV T rd j) + (T (rd + j))) (b := 48) (by omega)) ?_
            refine lv_goto (tgt := 63) hx hb dX5_readNumber_56 (by decide) ?_
            exact J63 (((10 * nuV T rd j) + (T (rd + j))) - 48) (by show _ = ite _ _ _; rw [if_pos (by omega)]) _ (lv_sub hl [0, 1, 2] rfl)
  exact L9 ((len - 0) + 1) 0 (by omega) (fun i a b => by omega) (Nat.lt_succ_self _) g_1 _ _ hk_1 hfr_1 hP hS _ (lv_sub hl [0, 1, 2] rfl)


set_option maxHeartbeats 4000000 in
set_option maxRecDepth 100000 in
theorem c_X0_beatAt (l : Launch) (D : va_G) (cy : Nat → ClassId) (ad : Nat → Nat) (N : Nat) (g : Nat → va_E) (k : Nat) (hk : k < N) (kb : Nat) (hkb : kb < N) (len : Nat) (B : Nat → Nat) (hg : g k = .inr (0, [.ref (ad kb), .int (nI (len))])) (hgb : g kb = .inl (cy 0, 200, .inl (fun x9 => nI (B x9)))) (hkk : k ≠ kb) (hlen : len ≤ 200) (hB : ∀ i, B i < 64) (i : Nat) (hi : i < 2 ^ 31) : Met l yX0_beatAt (WS yX0_beatAt cX0_beatAt 2 (some .int)) (rmF 0 0) (PP [.ref (ad k), .int (nI (i))] D cy ad N g) (vp_Si (fun r => r = nI (bt8 B len i))) 0 0 (fun _ => False) := by
  refine mentry (by decide) (Nat.le_of_ble_eq_true rfl) (fun p e s m below meth c ls S hr hlk hnm hP hK hl => ?_)
  have S : CallFix p m c cX0_beatAt 2 s _ wsL_law RX0 := S
  have hx := S.1
  have hb := S.2.1
  have hl : lv_has ls 2 [(0, .ref (ad k)), (1, .int (nI (i)))] := hl
  refine lv_iload_n hx hb dX0_beatAt_0 rfl (lv_at hl 1 rfl) ?_
  refine lv_if_lt (tgt := 30) hx hb dX0_beatAt_1 (by decide) (fun c_1 => ?_) (fun c_1 => ?_)
  · skip
    have c_1 := (z_lt (by omega)).mp c_1
    exact c_1.elim
  · skip
    have c_1 := (not_congr (z_lt (by omega))).mp c_1
    refine lv_iload_n hx hb dX0_beatAt_4 rfl (lv_at hl 1 rfl) ?_
    refine lv_aload_n hx hb dX0_beatAt_5 rfl (lv_at hl 0 rfl) ?_
    refine mg S hK hP hk hg fd_X0_15 rfl dX0_beatAt_6 ?_
    refine lv_icmp_ge (tgt := 30) hx hb dX0_beatAt_9 (by decide) (fun c_9 => ?_) (fun c_9 => ?_)
    · skip
      have c_9 := (nI_leI (by omega) (by omega)).mp c_9
      refine lv_bipush (v := nI (48)) hx hb dX0_beatAt_30 (by decide) ?_
      exact rSi S hr hlk (by show _ = nI (bt8 B len i); rw [bt8, if_neg (by omega)]) dX0_beatAt_32
    · skip
      have c_9 := (not_congr (nI_leI (by omega) (by omega))).mp c_9
      refine lv_iload_n hx hb dX0_beatAt_12 rfl (lv_at hl 1 rfl) ?_
      refine lv_aload_n hx hb dX0_beatAt_13 rfl (lv_at hl 0 rfl) ?_
      refine mg S hK hP hk hg fd_X0_9 rfl dX0_beatAt_14 ?_
      refine malen S hK hP hkb hgb rfl (v := nI 200) rfl dX0_beatAt_17 ?_
      refine lv_icmp_ge (tgt := 30) hx hb dX0_beatAt_18 (by decide) (fun c_18 => ?_) (fun c_18 => ?_)
      · skip
        have c_18 := (nI_leI (by omega) (by omega)).mp c_18
        exact absurd c_18 (by omega)
      · skip
        have c_18 := (not_congr (nI_leI (by omega) (by omega))).mp c_18
        refine lv_aload_n hx hb dX0_beatAt_21 rfl (lv_at hl 0 rfl) ?_
        refine mg S hK hP hk hg fd_X0_9 rfl dX0_beatAt_22 ?_
        refine lv_iload_n hx hb dX0_beatAt_25 rfl (lv_at hl 1 rfl) ?_
        refine mbal S hK hP hkb hgb (vp_in_nI (by omega) (by omega)) dX0_beatAt_26 ?_
        refine tpi (congrArg ((fun x9 => nI (B x9))) (nI_clamp (by omega))) ?_
        refine lv_goto (tgt := 32) hx hb dX0_beatAt_27 (by decide) ?_
        exact rSi S hr hlk (by rw [bt8_in (by omega)]) dX0_beatAt_32
set_option maxHeartbeats 4000000 in
set_option maxRecDepth 100000 in
theorem c_X0_sortOf (l : Launch) (D : va_G) (cy : Nat → ClassId) (ad : Nat → Nat) (N : Nat) (g : Nat → va_E) (k : Nat) (hk : k < N) (kb : Nat) (hkb : kb < N) (len : Nat) (B : Nat → Nat) (hg : g k = .inr (0, [.ref (ad kb), .int (nI (len))])) (hgb : g kb = .inl (cy 0, 200, .inl (fun x9 => nI (B x9)))) (hkk : k ≠ kb) (hlen : len ≤ 200) (hB : ∀ i, B i < 64) (i : Nat) (hi : i < 2 ^ 31) : Met l yX0_sortOf (WS yX0_sortOf cX0_sortOf 2 (some .int)) (rmF 1 21) (PP [.ref (ad k), .int (nI (i))] D cy ad N g) (vp_Si (fun r => r = nI (bt8 B len i / 8))) 0 0 (fun _ => False) := by
  refine mentry (by decide) (Nat.le_of_ble_eq_true rfl) (fun p e s m below meth c ls S hr hlk hnm hP hK hl => ?_)
  have S : CallFix p m c cX0_sortOf 2 s _ wsL_law RX0 := S
  have hx := S.1
  have hb := S.2.1
  have hl : lv_has ls 2 [(0, .ref (ad k)), (1, .int (nI (i)))] := hl
  have hb8 := bt8_lt (len := len) (i := i) hB
  refine lv_aload_n hx hb dX0_sortOf_0 rfl (lv_at hl 0 rfl) ?_
  refine lv_iload_n hx hb dX0_sortOf_1 rfl (lv_at hl 1 rfl) ?_
  refine kVi (As := [.int (nI (i))]) (rest := []) S hK hP (c_X0_beatAt l D cy ad N g k hk kb hkb len B hg hgb (by omega) hlen hB i (by omega)) cv_X0_25 hk hg ⟨_, _, rfl⟩ ⟨rfl, rfl⟩ rfl hl.1 rfl (Nat.le_of_ble_eq_true rfl) ⟨Nat.zero_le _, Nat.zero_le _⟩ dX0_sortOf_2 (fun r_2 q_2 => ?_)
  subst q_2
  refine lv_iconst (v := nI (3)) hx hb dX0_sortOf_5 (by decide) ?_
  refine lv_ishr hx hb dX0_sortOf_6 ?_
  refine tpi (shrN (by omega) (by omega)) ?_
  exact rSi S hr hlk rfl dX0_sortOf_7
set_option maxHeartbeats 4000000 in
set_option maxRecDepth 100000 in
theorem c_X0_numberOf (l : Launch) (D : va_G) (cy : Nat → ClassId) (ad : Nat → Nat) (N : Nat) (g : Nat → va_E) (k : Nat) (hk : k < N) (kb : Nat) (hkb : kb < N) (len : Nat) (B : Nat → Nat) (hg : g k = .inr (0, [.ref (ad kb), .int (nI (len))])) (hgb : g kb = .inl (cy 0, 200, .inl (fun x9 => nI (B x9)))) (hkk : k ≠ kb) (hlen : len ≤ 200) (hB : ∀ i, B i < 64) (i : Nat) (hi : i < 2 ^ 31) : Met l yX0_numberOf (WS yX0_numberOf cX0_numberOf 2 (some .int)) (rmF 1 21) (PP [.ref (ad k), .int (nI (i))] D cy ad N g) (vp_Si (fun r => r = nI (bt8 B len i % 8))) 0 0 (fun _ => False) := by
  refine mentry (by decide) (Nat.le_of_ble_eq_true rfl) (fun p e s m below meth c ls S hr hlk hnm hP hK hl => ?_)
  have S : CallFix p m c cX0_numberOf 2 s _ wsL_law RX0 := S
  have hx := S.1
  have hb := S.2.1
  have hl : lv_has ls 2 [(0, .ref (ad k)), (1, .int (nI (i)))] := hl
  have hb8 := bt8_lt (len := len) (i := i) hB
  refine lv_aload_n hx hb dX0_numberOf_0 rfl (lv_at hl 0 rfl) ?_
  refine lv_iload_n hx hb dX0_numberOf_1 rfl (lv_at hl 1 rfl) ?_
  refine kVi (As := [.int (nI (i))]) (rest := []) S hK hP (c_X0_beatAt l D cy ad N g k hk kb hkb len B hg hgb (by omega) hlen hB i (by omega)) cv_X0_25 hk hg ⟨_, _, rfl⟩ ⟨rfl, rfl⟩ rfl hl.1 rfl (Nat.le_of_ble_eq_true rfl) ⟨Nat.zero_le _, Nat.zero_le _⟩ dX0_numberOf_2 (fun r_2 q_2 => ?_)
  subst q_2
  refine lv_bipush (v := nI (7)) hx hb dX0_numberOf_5 (by decide) ?_
  refine lv_iand hx hb dX0_numberOf_7 ?_
  refine tpi (nx_and (bt8 B len i) 7) ?_
  exact rSi S hr hlk (by rw [an7]) dX0_numberOf_8
set_option maxHeartbeats 4000000 in
set_option maxRecDepth 100000 in
theorem c_X0_append (l : Launch) (D : va_G) (cy : Nat → ClassId) (ad : Nat → Nat) (N : Nat) (g : Nat → va_E) (hinj : ∀ i j : Nat, i < N → j < N → ad i = ad j → i = j) (k : Nat) (hk : k < N) (kb : Nat) (hkb : kb < N) (len : Nat) (B : Nat → Nat) (hg : g k = .inr (0, [.ref (ad kb), .int (nI (len))])) (hgb : g kb = .inl (cy 0, 200, .inl (fun x9 => nI (B x9)))) (hkk : k ≠ kb) (hlen : len ≤ 200) (hB : ∀ i, B i < 64) (v : Nat) (hv : v < 64) : Met l yX0_append (WS yX0_append cX0_append 2 (some .boolean)) (rmF 0 0) (PP [.ref (ad k), .int (nI (v))] D cy ad N g) (QI (fun r g1 => (r = if len < 200 then 1 else 0) ∧ g1 k = .inr (0, [.ref (ad kb), .int (nI (apL len))]) ∧ g1 kb = .inl (cy 0, 200, .inl (fun x9 => nI ((apB B len v) x9))) ∧ (∀ j, j ≠ k → j ≠ kb → g1 j = g j)) D ad N) 0 0 (AA ad N) := by
  refine mentry (by decide) (Nat.le_of_ble_eq_true rfl) (fun p e s m below meth c ls S hr hlk hnm hP hK hl => ?_)
  have S : CallFix p m c cX0_append 2 s _ wsL_law RX0 := S
  have hx := S.1
  have hb := S.2.1
  have hl : lv_has ls 2 [(0, .ref (ad k)), (1, .int (nI (v)))] := hl
  have hI : MD (AA ad N) ad N := MD.in hinj
  have hS : va_S (AA ad N) s.heap s.heap [] := va_S.rf
  have hfr : ∀ j : Nat, g j = g j := fun _ => rfl
  refine lv_aload_n hx hb dX0_append_0 rfl (lv_at hl 0 rfl) ?_
  refine mg S hK hP hk hg fd_X0_15 rfl dX0_append_1 ?_
  refine lv_if_lt (tgt := 19) hx hb dX0_append_4 (by decide) (fun c_4 => ?_) (fun c_4 => ?_)
  · skip
    have c_4 := (z_lt (by omega)).mp c_4
    exact c_4.elim
  · skip
    have c_4 := (not_congr (z_lt (by omega))).mp c_4
    refine lv_aload_n hx hb dX0_append_7 rfl (lv_at hl 0 rfl) ?_
    refine mg S hK hP hk hg fd_X0_15 rfl dX0_append_8 ?_
    refine lv_aload_n hx hb dX0_append_11 rfl (lv_at hl 0 rfl) ?_
    refine mg S hK hP hk hg fd_X0_9 rfl dX0_append_12 ?_
    refine malen S hK hP hkb hgb rfl (v := nI 200) rfl dX0_append_15 ?_
    refine lv_icmp_lt (tgt := 21) hx hb dX0_append_16 (by decide) (fun c_16 => ?_) (fun c_16 => ?_)
    · skip
      have c_16 := (nI_ltI (by omega) (by omega)).mp c_16
      refine lv_aload_n hx hb dX0_append_21 rfl (lv_at hl 0 rfl) ?_
      refine mg S hK hP hk hg fd_X0_9 rfl dX0_append_22 ?_
      refine lv_aload_n hx hb dX0_append_25 rfl (lv_at hl 0 rfl) ?_
      refine mg S hK hP hk hg fd_X0_15 rfl dX0_append_26 ?_
      refine lv_iload_n hx hb dX0_append_29 rfl (lv_at hl 1 rfl) ?_
      refine lv_i2b hx hb dX0_append_30 rfl ?_
      refine tpi (fa_b8 (by omega)) ?_
      refine mbas S hK hP hI hS hkb hgb (vp_in_nI (by omega) (by omega)) dX0_append_31 (fun g_1 H locs eg_1 hP hS => ?_)
      have hkb_1 : g_1 kb = .inl (cy 0, 200, .inl (fun x9 => nI ((va_up B len v) x9))) := by rw [eg_1, va_up_self]; exact (arrB_up (by omega) (by omega))
      have hk_1 : g_1 k = .inr (0, [.ref (ad kb), .int (nI (len))]) := ((congrFun eg_1 _).trans (va_up_ne _ _ (by omega))).trans hg
      have hfr_1 : ∀ j : Nat, j ≠ kb → g_1 j = g j := fun j n0 => ((congrFun eg_1 _).trans (va_up_ne _ _ n0)).trans (hfr j )
      refine lv_aload_n hx hb dX0_append_32 rfl (lv_at hl 0 rfl) ?_
      refine lv_dup hx hb dX0_append_33 rfl ?_
      refine mg S hK hP hk hk_1 fd_X0_15 rfl dX0_append_34 ?_
      refine lv_iconst (v := nI (1)) hx hb dX0_append_37 (by decide) ?_
      refine lv_iadd hx hb dX0_append_38 ?_
      refine tpi (nI_add len 1) ?_
      refine mp S hK hP hI hS hk hk_1 fd_X0_15 rfl rfl (Nat.le_of_ble_eq_true rfl) dX0_append_39 (fun g_2 H locs eg_2 hP hS => ?_)
      have hk_2 : g_2 k = .inr (0, [.ref (ad kb), .int (nI (len + 1))]) := by rw [eg_2, va_up_self]; exact rfl
      have hkb_2 : g_2 kb = .inl (cy 0, 200, .inl (fun x9 => nI ((va_up B len v) x9))) := ((congrFun eg_2 _).trans (va_up_ne _ _ (by omega))).trans hkb_1
      have hfr_2 : ∀ j : Nat, j ≠ kb → j ≠ k → g_2 j = g j := fun j n0 n1 => ((congrFun eg_2 _).trans (va_up_ne _ _ n1)).trans (hfr_1 j n0)
      refine lv_iconst (v := nI (1)) hx hb dX0_append_42 (by decide) ?_
      exact rMz S hr hlk (by first | exact Or.inl rfl | exact Or.inr rfl) hP hS ⟨(ifT (by omega)), (by rw [apL, if_pos (by omega)]; exact hk_2), (by rw [apB, if_pos (by omega)]; exact hkb_2), (fun j n0 n1 => hfr_2 j (by omega) (by omega))⟩ dX0_append_43
    · skip
      have c_16 := (not_congr (nI_ltI (by omega) (by omega))).mp c_16
      refine lv_iconst (v := nI (0)) hx hb dX0_append_19 (by decide) ?_
      exact rMz S hr hlk (by first | exact Or.inl rfl | exact Or.inr rfl) hP hS ⟨(ifF (by omega)), (by rw [apL, if_neg (by omega)]; exact hg), (by rw [apB, if_neg (by omega)]; exact hgb), (fun j n0 n1 => hfr j )⟩ dX0_append_20
set_option maxHeartbeats 4000000 in
set_option maxRecDepth 100000 in
theorem c_X0_become (l : Launch) (D : va_G) (cy : Nat → ClassId) (ad : Nat → Nat) (N : Nat) (g : Nat → va_E) (hinj : ∀ i j : Nat, i < N → j < N → ad i = ad j → i = j) (k : Nat) (hk : k < N) (kb : Nat) (hkb : kb < N) (len : Nat) (B : Nat → Nat) (hg : g k = .inr (0, [.ref (ad kb), .int (nI (len))])) (hgb : g kb = .inl (cy 0, 200, .inl (fun x9 => nI (B x9)))) (hkk : k ≠ kb) (hlen : len ≤ 200) (hB : ∀ i, B i < 64) (k2 : Nat) (hk2 : k2 < N) (kb2 : Nat) (hkb2 : kb2 < N) (len2 : Nat) (B2 : Nat → Nat) (hg2 : g k2 = .inr (0, [.ref (ad kb2), .int (nI (len2))])) (hgb2 : g kb2 = .inl (cy 0, 200, .inl (fun x9 => nI (B2 x9)))) (hB2 : ∀ i, B2 i < 64) (hd1 : k ≠ k2 ∧ k ≠ kb2 ∧ kb ≠ k2 ∧ kb ≠ kb2) : Met l yX0_become (WS yX0_become cX0_become 2 none) (rmF 1 18) (PP [.ref (ad k), .ref (ad k2)] D cy ad N g) (QV (fun g1 => g1 k = .inr (0, [.ref (ad kb), .int (nI (len2))]) ∧ g1 kb = .inl (cy 0, 200, .inl (fun x9 => nI ((cpB B2 B) x9))) ∧ (∀ j, j ≠ k → j ≠ kb → g1 j = g j)) D ad N) 0 0 (AA ad N) := by
  refine mentry (by decide) (Nat.le_of_ble_eq_true rfl) (fun p e s m below meth c ls S hr hlk hnm hP hK hl => ?_)
  have S : CallFix p m c cX0_become 2 s _ wsL_law RX0 := S
  have hx := S.1
  have hb := S.2.1
  have hl : lv_has ls 2 [(0, .ref (ad k)), (1, .ref (ad k2))] := hl
  have hI : MD (AA ad N) ad N := MD.in hinj
  have hS : va_S (AA ad N) s.heap s.heap [] := va_S.rf
  have hfr : ∀ j : Nat, g j = g j := fun _ => rfl
  refine lv_aload_n hx hb dX0_become_0 rfl (lv_at hl 0 rfl) ?_
  refine lv_aload_n hx hb dX0_become_1 rfl (lv_at hl 1 rfl) ?_
  refine mg S hK hP hk2 hg2 fd_X0_15 rfl dX0_become_2 ?_
  refine mp S hK hP hI hS hk hg fd_X0_15 rfl rfl (Nat.le_of_ble_eq_true rfl) dX0_become_5 (fun g_1 H locs eg_1 hP hS => ?_)
  have hk_1 : g_1 k = .inr (0, [.ref (ad kb), .int (nI (len2))]) := by rw [eg_1, va_up_self]; exact rfl
  have hkb_1 : g_1 kb = .inl (cy 0, 200, .inl (fun x9 => nI (B x9))) := ((congrFun eg_1 _).trans (va_up_ne _ _ (by omega))).trans hgb
  have hk2_1 : g_1 k2 = .inr (0, [.ref (ad kb2), .int (nI (len2))]) := ((congrFun eg_1 _).trans (va_up_ne _ _ (by omega))).trans hg2
  have hkb2_1 : g_1 kb2 = .inl (cy 0, 200, .inl (fun x9 => nI (B2 x9))) := ((congrFun eg_1 _).trans (va_up_ne _ _ (by omega))).trans hgb2
  have hfr_1 : ∀ j : Nat, j ≠ k → g_1 j = g j := fun j n0 => ((congrFun eg_1 _).trans (va_up_ne _ _ n0)).trans (hfr j )
  refine lv_aload_n hx hb dX0_become_8 rfl (lv_at hl 1 rfl) ?_
  refine mg S hK hP hk2 hk2_1 fd_X0_9 rfl dX0_become_9 ?_
  refine lv_iconst (v := nI (0)) hx hb dX0_become_12 (by decide) ?_
  refine lv_aload_n hx hb dX0_become_13 rfl (lv_at hl 0 rfl) ?_
  refine mg S hK hP hk hk_1 fd_X0_9 rfl dX0_become_14 ?_
  refine lv_iconst (v := nI (0)) hx hb dX0_become_17 (by decide) ?_
  refine lv_aload_n hx hb dX0_become_18 rfl (lv_at hl 0 rfl) ?_
  refine mg S hK hP hk hk_1 fd_X0_9 rfl dX0_become_19 ?_
  refine malen S hK hP hkb hkb_1 rfl (v := nI 200) rfl dX0_become_22 ?_
  refine mcpyB (rest := []) S hl.1 hK hP hI hS hkb hkb2 hkb_1 hkb2_1 hB2 m_X0_19 (Nat.le_of_ble_eq_true rfl) (Nat.le_of_ble_eq_true rfl) dX0_become_23 (fun g_2 H locs eg_2 hP hS => ?_)
  have hkb_2 : g_2 kb = .inl (cy 0, 200, .inl (fun x9 => nI ((cpB B2 B) x9))) := by rw [eg_2, va_up_self]
  have hk_2 : g_2 k = .inr (0, [.ref (ad kb), .int (nI (len2))]) := ((congrFun eg_2 _).trans (va_up_ne _ _ (by omega))).trans hk_1
  have hk2_2 : g_2 k2 = .inr (0, [.ref (ad kb2), .int (nI (len2))]) := ((congrFun eg_2 _).trans (va_up_ne _ _ (by omega))).trans hk2_1
  have hkb2_2 : g_2 kb2 = .inl (cy 0, 200, .inl (fun x9 => nI (B2 x9))) := ((congrFun eg_2 _).trans (va_up_ne _ _ (by omega))).trans hkb2_1
  have hfr_2 : ∀ j : Nat, j ≠ k → j ≠ kb → g_2 j = g j := fun j n0 n1 => ((congrFun eg_2 _).trans (va_up_ne _ _ n1)).trans (hfr_1 j n0)
  exact rMv S hr hlk hP hS ⟨hk_2, hkb_2, hfr_2⟩ dX0_become_26


set_option maxHeartbeats 4000000 in
set_option maxRecDepth 100000 in
theorem c_X7_append (l : Launch) (D : va_G) (cy : Nat → ClassId) (ad : Nat → Nat) (N : Nat) (g : Nat → va_E) (hinj : ∀ i j : Nat, i < N → j < N → ad i = ad j → i = j) (k : Nat) (hk : k < N) (kv : Nat) (hkv : kv < N) (len : Nat) (V : Nat → Nat) (hg : g k = .inr (7, [.ref (ad kv), .int (nI (len))])) (hgv : g kv = .inl (cy 1, 16, .inl (fun x9 => nI (V x9)))) (hkk : k ≠ kv) (hlen : len ≤ 16) (hV : ∀ i, V i < 8) (v : Nat) (hv : v < 8) : Met l yX7_append (WS yX7_append cX7_append 2 (some .boolean)) (rmF 0 0) (PP [.ref (ad k), .int (nI (v))] D cy ad N g) (QI (fun r g1 => (r = if len < 16 then 1 else 0) ∧ g1 k = .inr (7, [.ref (ad kv), .int (nI (apVL len))]) ∧ g1 kv = .inl (cy 1, 16, .inl (fun x9 => nI ((apV V len v) x9))) ∧ (∀ j, j ≠ k → j ≠ kv → g1 j = g j)) D ad N) 0 0 (AA ad N) := by
  refine mentry (by decide) (Nat.le_of_ble_eq_true rfl) (fun p e s m below meth c ls S hr hlk hnm hP hK hl => ?_)
  have S : CallFix p m c cX7_append 2 s _ wsL_law RX7 := S
  have hx := S.1
  have hb := S.2.1
  have hl : lv_has ls 2 [(0, .ref (ad k)), (1, .int (nI (v)))] := hl
  have hI : MD (AA ad N) ad N := MD.in hinj
  have hS : va_S (AA ad N) s.heap s.heap [] := va_S.rf
  have hfr : ∀ j : Nat, g j = g j := fun _ => rfl
  refine lv_aload_n hx hb dX7_append_0 rfl (lv_at hl 0 rfl) ?_
  refine mg S hK hP hk hg fd_X7_15 rfl dX7_append_1 ?_
  refine lv_if_lt (tgt := 19) hx hb dX7_append_4 (by decide) (fun c_4 => ?_) (fun c_4 => ?_)
  · skip
    have c_4 := (z_lt (by omega)).mp c_4
    exact c_4.elim
  · skip
    have c_4 := (not_congr (z_lt (by omega))).mp c_4
    refine lv_aload_n hx hb dX7_append_7 rfl (lv_at hl 0 rfl) ?_
    refine mg S hK hP hk hg fd_X7_15 rfl dX7_append_8 ?_
    refine lv_aload_n hx hb dX7_append_11 rfl (lv_at hl 0 rfl) ?_
    refine mg S hK hP hk hg fd_X7_9 rfl dX7_append_12 ?_
    refine malen S hK hP hkv hgv rfl (v := nI 16) rfl dX7_append_15 ?_
    refine lv_icmp_lt (tgt := 21) hx hb dX7_append_16 (by decide) (fun c_16 => ?_) (fun c_16 => ?_)
    · skip
      have c_16 := (nI_ltI (by omega) (by omega)).mp c_16
      refine lv_aload_n hx hb dX7_append_21 rfl (lv_at hl 0 rfl) ?_
      refine mg S hK hP hk hg fd_X7_9 rfl dX7_append_22 ?_
      refine lv_aload_n hx hb dX7_append_25 rfl (lv_at hl 0 rfl) ?_
      refine mg S hK hP hk hg fd_X7_15 rfl dX7_append_26 ?_
      refine lv_iload_n hx hb dX7_append_29 rfl (lv_at hl 1 rfl) ?_
      refine mias S hK hP hI hS hkv hgv (vp_in_nI (by omega) (by omega)) dX7_append_30 (fun g_1 H locs eg_1 hP hS => ?_)
      have hkv_1 : g_1 kv = .inl (cy 1, 16, .inl (fun x9 => nI ((va_up V len v) x9))) := by rw [eg_1, va_up_self]; exact (arrN_up (by omega))
      have hk_1 : g_1 k = .inr (7, [.ref (ad kv), .int (nI (len))]) := ((congrFun eg_1 _).trans (va_up_ne _ _ (by omega))).trans hg
      have hfr_1 : ∀ j : Nat, j ≠ kv → g_1 j = g j := fun j n0 => ((congrFun eg_1 _).trans (va_up_ne _ _ n0)).trans (hfr j )
      refine lv_aload_n hx hb dX7_append_31 rfl (lv_at hl 0 rfl) ?_
      refine lv_dup hx hb dX7_append_32 rfl ?_
      refine mg S hK hP hk hk_1 fd_X7_15 rfl dX7_append_33 ?_
      refine lv_iconst (v := nI (1)) hx hb dX7_append_36 (by decide) ?_
      refine lv_iadd hx hb dX7_append_37 ?_
      refine tpi (nI_add len 1) ?_
      refine mp S hK hP hI hS hk hk_1 fd_X7_15 rfl rfl (Nat.le_of_ble_eq_true rfl) dX7_append_38 (fun g_2 H locs eg_2 hP hS => ?_)
      have hk_2 : g_2 k = .inr (7, [.ref (ad kv), .int (nI (len + 1))]) := by rw [eg_2, va_up_self]; exact rfl
      have hkv_2 : g_2 kv = .inl (cy 1, 16, .inl (fun x9 => nI ((va_up V len v) x9))) := ((congrFun eg_2 _).trans (va_up_ne _ _ (by omega))).trans hkv_1
      have hfr_2 : ∀ j : Nat, j ≠ kv → j ≠ k → g_2 j = g j := fun j n0 n1 => ((congrFun eg_2 _).trans (va_up_ne _ _ n1)).trans (hfr_1 j n0)
      refine lv_iconst (v := nI (1)) hx hb dX7_append_41 (by decide) ?_
      exact rMz S hr hlk (by first | exact Or.inl rfl | exact Or.inr rfl) hP hS ⟨(ifT (by omega)), (by rw [apVL, if_pos (by omega)]; exact hk_2), (by rw [apV, if_pos (by omega)]; exact hkv_2), (fun j n0 n1 => hfr_2 j (by omega) (by omega))⟩ dX7_append_42
    · skip
      have c_16 := (not_congr (nI_ltI (by omega) (by omega))).mp c_16
      refine lv_iconst (v := nI (0)) hx hb dX7_append_19 (by decide) ?_
      exact rMz S hr hlk (by first | exact Or.inl rfl | exact Or.inr rfl) hP hS ⟨(ifF (by omega)), (by rw [apVL, if_neg (by omega)]; exact hg), (by rw [apV, if_neg (by omega)]; exact hgv), (fun j n0 n1 => hfr j )⟩ dX7_append_20
set_option maxHeartbeats 4000000 in
set_option maxRecDepth 100000 in
theorem c_X7_figureAt (l : Launch) (D : va_G) (cy : Nat → ClassId) (ad : Nat → Nat) (N : Nat) (g : Nat → va_E) (k : Nat) (hk : k < N) (kv : Nat) (hkv : kv < N) (len : Nat) (V : Nat → Nat) (hg : g k = .inr (7, [.ref (ad kv), .int (nI (len))])) (hgv : g kv = .inl (cy 1, 16, .inl (fun x9 => nI (V x9)))) (hkk : k ≠ kv) (hlen : len ≤ 16) (hV : ∀ i, V i < 8) (i : Nat) (hi : i < 2 ^ 31) : Met l yX7_figureAt (WS yX7_figureAt cX7_figureAt 2 (some .int)) (rmF 0 0) (PP [.ref (ad k), .int (nI (i))] D cy ad N g) (vp_Si (fun r => r = if i < len then nI (V i) else -4)) 0 0 (fun _ => False) := by
  refine mentry (by decide) (Nat.le_of_ble_eq_true rfl) (fun p e s m below meth c ls S hr hlk hnm hP hK hl => ?_)
  have S : CallFix p m c cX7_figureAt 2 s _ wsL_law RX7 := S
  have hx := S.1
  have hb := S.2.1
  have hl : lv_has ls 2 [(0, .ref (ad k)), (1, .int (nI (i)))] := hl
  refine lv_iload_n hx hb dX7_figureAt_0 rfl (lv_at hl 1 rfl) ?_
  refine lv_if_lt (tgt := 30) hx hb dX7_figureAt_1 (by decide) (fun c_1 => ?_) (fun c_1 => ?_)
  · skip
    have c_1 := (z_lt (by omega)).mp c_1
    exact c_1.elim
  · skip
    have c_1 := (not_congr (z_lt (by omega))).mp c_1
    refine lv_iload_n hx hb dX7_figureAt_4 rfl (lv_at hl 1 rfl) ?_
    refine lv_aload_n hx hb dX7_figureAt_5 rfl (lv_at hl 0 rfl) ?_
    refine mg S hK hP hk hg fd_X7_15 rfl dX7_figureAt_6 ?_
    refine lv_icmp_ge (tgt := 30) hx hb dX7_figureAt_9 (by decide) (fun c_9 => ?_) (fun c_9 => ?_)
    · skip
      have c_9 := (nI_leI (by omega) (by omega)).mp c_9
      refine lv_bipush (v := (-4)) hx hb dX7_figureAt_30 (by decide) ?_
      exact rSi S hr hlk (if_neg (by omega)).symm dX7_figureAt_32
    · skip
      have c_9 := (not_congr (nI_leI (by omega) (by omega))).mp c_9
      refine lv_iload_n hx hb dX7_figureAt_12 rfl (lv_at hl 1 rfl) ?_
      refine lv_aload_n hx hb dX7_figureAt_13 rfl (lv_at hl 0 rfl) ?_
      refine mg S hK hP hk hg fd_X7_9 rfl dX7_figureAt_14 ?_
      refine malen S hK hP hkv hgv rfl (v := nI 16) rfl dX7_figureAt_17 ?_
      refine lv_icmp_ge (tgt := 30) hx hb dX7_figureAt_18 (by decide) (fun c_18 => ?_) (fun c_18 => ?_)
      · skip
        have c_18 := (nI_leI (by omega) (by omega)).mp c_18
        exact absurd c_18 (by omega)
      · skip
        have c_18 := (not_congr (nI_leI (by omega) (by omega))).mp c_18
        refine lv_aload_n hx hb dX7_figureAt_21 rfl (lv_at hl 0 rfl) ?_
        refine mg S hK hP hk hg fd_X7_9 rfl dX7_figureAt_22 ?_
        refine lv_iload_n hx hb dX7_figureAt_25 rfl (lv_at hl 1 rfl) ?_
        refine mial S hK hP hkv hgv (vp_in_nI (by omega) (by omega)) dX7_figureAt_26 ?_
        refine tpi (congrArg ((fun x9 => nI (V x9))) (nI_clamp (by omega))) ?_
        refine lv_goto (tgt := 32) hx hb dX7_figureAt_27 (by decide) ?_
        exact rSi S hr hlk (if_pos (by omega)).symm dX7_figureAt_32
set_option maxHeartbeats 4000000 in
set_option maxRecDepth 100000 in
theorem c_X7_placeFrom (l : Launch) (D : va_G) (cy : Nat → ClassId) (ad : Nat → Nat) (N : Nat) (g : Nat → va_E) (k : Nat) (hk : k < N) (kv : Nat) (hkv : kv < N) (len : Nat) (V : Nat → Nat) (hg : g k = .inr (7, [.ref (ad kv), .int (nI (len))])) (hgv : g kv = .inl (cy 1, 16, .inl (fun x9 => nI (V x9)))) (hkk : k ≠ kv) (hlen : len ≤ 16) (hV : ∀ i, V i < 8) (i : Nat) (hi : i ≤ len) (f : Nat) (hf : f < 2 ^ 31) : Met l yX7_placeFrom (WS yX7_placeFrom cX7_placeFrom 4 (some .int)) (rmF 1 21) (PP [.ref (ad k), .int (nI (i)), .int (nI (f))] D cy ad N g) (vp_Si (fun r => r = if pfr V len f i < len then nI (pfr V len f i) else -4)) 0 0 (fun _ => False) := by
  refine mentry (by decide) (Nat.le_of_ble_eq_true rfl) (fun p e s m below meth c ls S hr hlk hnm hP hK hl => ?_)
  have S : CallFix p m c cX7_placeFrom 4 s _ wsL_law RX7 := S
  have hx := S.1
  have hb := S.2.1
  have hl : lv_has ls 4 [(0, .ref (ad k)), (1, .int (nI (i))), (2, .int (nI (f)))] := hl
  refine lv_iload_n hx hb dX7_placeFrom_0 rfl (lv_at hl 1 rfl) ?_
  refine lv_istore_n (lv' := [(3, .int (nI (i))), (0, .ref (ad k)), (1, .int (nI (i))), (2, .int (nI (f)))]) hx hb dX7_placeFrom_1 rfl hl (by decide) rfl (fun ls hl => ?_)
  have L2 : ∀ (fu : Nat) (j : Nat), (j ≤ len) → (i ≤ j) → (∀ k, i ≤ k → k < j → decide (V k = f) = false) → (len - j) < fu → ∀ (ls : Array Slot), lv_has ls 4 [(3, .int (nI (j))), (0, .ref (ad k)), (1, .int (nI (i))), (2, .int (nI (f)))] → W p l e (rmF 1 21) s m [.ref (ad k), .int (nI (i)), .int (nI (f))].toArray below meth c s.heap [] 0 0 (MQ below (vp_Si (fun r => r = if pfr V len f i < len then nI (pfr V len f i) else -4)) [.ref (ad k), .int (nI (i)), .int (nI (f))].toArray s 0 0 (fun _ => False)) (F0 m 2 ls []) := by
    intro fu
    induction fu with
    | zero => intro j hj hij hno hms ls hl; exact absurd hms (Nat.not_lt_zero _)
    | succ fu ih2 =>
      intro j hj hij hno hms ls hl
      refine lv_iload_n hx hb dX7_placeFrom_2 rfl (lv_at hl 0 rfl) ?_
      refine lv_aload_n hx hb dX7_placeFrom_3 rfl (lv_at hl 1 rfl) ?_
      refine mg S hK hP hk hg fd_X7_15 rfl dX7_placeFrom_4 ?_
      refine lv_icmp_ge (tgt := 27) hx hb dX7_placeFrom_7 (by decide) (fun c_7 => ?_) (fun c_7 => ?_)
      · skip
        have c_7 := (nI_leI (by omega) (by omega)).mp c_7
        refine lv_bipush (v := (-4)) hx hb dX7_placeFrom_27 (by decide) ?_
        have hR : pfr V len f i = len := fsr_none (by omega) (fun k a b => hno k a (by omega))
        exact rSi S hr hlk (by rw [hR, if_neg (by omega)]) dX7_placeFrom_29
      · skip
        have c_7 := (not_congr (nI_leI (by omega) (by omega))).mp c_7
        refine lv_aload_n hx hb dX7_placeFrom_10 rfl (lv_at hl 1 rfl) ?_
        refine lv_iload_n hx hb dX7_placeFrom_11 rfl (lv_at hl 0 rfl) ?_
        refine kVi (As := [.int (nI (j))]) (rest := []) S hK hP (c_X7_figureAt l D cy ad N g k hk kv hkv len V hg hgv (by omega) hlen hV j (by omega)) cv_X7_19 hk hg ⟨_, _, rfl⟩ ⟨rfl, rfl⟩ rfl hl.1 rfl (Nat.le_of_ble_eq_true rfl) ⟨Nat.zero_le _, Nat.zero_le _⟩ dX7_placeFrom_12 (fun r_12 q_12 => ?_)
        subst q_12
        refine tpi (if_pos (by omega)) ?_
        have hVj := hV j
        refine lv_iload_n hx hb dX7_placeFrom_15 rfl (lv_at hl 3 rfl) ?_
        refine lv_icmp_ne (tgt := 21) hx hb dX7_placeFrom_16 (by decide) (fun c_16 => ?_) (fun c_16 => ?_)
        · skip
          have c_16 := (not_congr (nI_eq (by omega) (by omega))).mp c_16
          refine lv_iinc (v := nI (j + 1)) (lv' := [(3, .int (nI (j + 1))), (0, .ref (ad k)), (1, .int (nI (i))), (2, .int (nI (f)))]) hx hb dX7_placeFrom_21 hl (k := 0) rfl (by exact nI_add j 1) (by decide) rfl (fun ls hl => ?_)
          refine lv_goto (tgt := 2) hx hb dX7_placeFrom_24 (by decide) ?_
          exact ih2 (j + 1) (by omega) (by omega) (fun k a b => by rcases Nat.lt_or_ge k j with q | q; exact hno k a q; rw [show k = j by omega]; exact decide_eq_false c_16) (by omega) _ (lv_sub hl [0, 1, 2, 3] rfl)
        · skip
          have c_16 := (nI_eq (by omega) (by omega)).mp c_16
          refine lv_iload_n hx hb dX7_placeFrom_19 rfl (lv_at hl 0 rfl) ?_
          have hR : pfr V len f i = j := fsr_stop (by omega) (by omega) hno (decide_eq_true c_16)
          exact rSi S hr hlk (by rw [hR, if_pos (by omega)]) dX7_placeFrom_20
  exact L2 ((len - i) + 1) i (by omega) (by omega) (fun k a b => by omega) (Nat.lt_succ_self _) _ (lv_sub hl [0, 1, 2, 3] rfl)

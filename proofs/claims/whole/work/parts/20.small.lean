set_option maxHeartbeats 4000000 in
set_option maxRecDepth 100000 in
theorem c_X7_append (l : Launch) (D : va_G) (cy : Nat → ClassId) (ad : Nat → Nat) (N : Nat) (g : Nat → va_E) (hinj : ∀ i j : Nat, i < N → j < N → ad i = ad j → i = j) (k : Nat) (hk : k < N) (kv : Nat) (hkv : kv < N) (len : Nat) (V : Nat → Nat) (hg : g k = .inr (7, [.ref (ad kv), .int (nI (len))])) (hgv : g kv = .inl (cy 1, 16, .inl (fun x9 => nI (V x9)))) (hkk : k ≠ kv) (hlen : len ≤ 16) (hV : ∀ i, V i < 8) (v : Nat) (hv : v < 8) : Met l yX7_append (WS yX7_append cX7_append 2 (some .boolean)) (rmF 0 0) (PP [.ref (ad k), .int (nI (v))] D cy ad N g) (QI (fun r g1 => (r = if len < 16 then 1 else 0) ∧ g1 k = .inr (7, [.ref (ad kv), .int (nI (apVL len))]) ∧ g1 kv = .inl (cy 1, 16, .inl (fun x9 => nI ((apV V len v) x9))) ∧ (∀ j, j ≠ k → j ≠ kv → g1 j = g j)) D ad N) 0 0 (AA ad N) := by
  refine mentry (by decide) (Nat.le_of_ble_eq_true rfl) (fun p e s m below meth c ls S hr hlk hnm hP hK hl => ?_)
  have S : CallFix p m c cX7_append 2 s _ wsL_law RX7 := S
  have hx := S.1
  have hb := S.2.1
  have hl : lv_has ls 2 [(0, .ref (ad k)), (1, .int (nI (v)))] := hl
  have hI : MD (AA ad N) ad N := MD.in hinj
  have hS : va_S (AA ad N) s.heap s.heap [] := va_S.rf
  have hfr : ∀ j : Nat, g j = g j := fun _ => rfl
  refine lv_aload_n hx hb dX7_append_0 rfl (lv_at hl 0 rfl) ?_
  refine mg S hK hP hk hg fd_X7_15 rfl dX7_append_1 ?_
  refine lv_if_lt (tgt := 19) hx hb dX7_append_4 (by decide) (fun c_4 => ?_) (fun c_4 => ?_)
  · skip
    have c_4 := (z_lt (by omega)).mp c_4
    exact c_4.elim
  · skip
    have c_4 := (not_congr (z_lt (by omega))).mp c_4
    refine lv_aload_n hx hb dX7_append_7 rfl (lv_at hl 0 rfl) ?_
    refine mg S hK hP hk hg fd_X7_15 rfl dX7_append_8 ?_
    refine lv_aload_n hx hb dX7_append_11 rfl (lv_at hl 0 rfl) ?_
    refine mg S hK hP hk hg fd_X7_9 rfl dX7_append_12 ?_
    refine malen S hK hP hkv hgv rfl (v := nI 16) rfl dX7_append_15 ?_
    refine lv_icmp_lt (tgt := 21) hx hb dX7_append_16 (by decide) (fun c_16 => ?_) (fun c_16 => ?_)
    · skip
      have c_16 := (nI_ltI (by omega) (by omega)).mp c_16
      refine lv_aload_n hx hb dX7_append_21 rfl (lv_at hl 0 rfl) ?_
      refine mg S hK hP hk hg fd_X7_9 rfl dX7_append_22 ?_
      refine lv_aload_n hx hb dX7_append_25 rfl (lv_at hl 0 rfl) ?_
      refine mg S hK hP hk hg fd_X7_15 rfl dX7_append_26 ?_
      refine lv_iload_n hx hb dX7_append_29 rfl (lv_at hl 1 rfl) ?_
      refine mias S hK hP hI hS hkv hgv (vp_in_nI (by omega) (by omega)) dX7_append_30 (fun g_1 H locs eg_1 hP hS => ?_)
      have hkv_1 : g_1 kv = .inl (cy 1, 16, .inl (fun x9 => nI ((va_up V len v) x9))) := by rw [eg_1, va_up_self]; exact (arrN_up (by omega))
      have hk_1 : g_1 k = .inr (7, [.ref (ad kv), .int (nI (len))]) := ((congrFun eg_1 _).trans (va_up_ne _ _ (by omega))).trans hg
      have hfr_1 : ∀ j : Nat, j ≠ kv → g_1 j = g j := fun j n0 => ((congrFun eg_1 _).trans (va_up_ne _ _ n0)).trans (hfr j )
      refine lv_aload_n hx hb dX7_append_31 rfl (lv_at hl 0 rfl) ?_
      refine lv_dup hx hb dX7_append_32 rfl ?_
      refine mg S hK hP hk hk_1 fd_X7_15 rfl dX7_append_33 ?_
      refine lv_iconst (v := nI (1)) hx hb dX7_append_36 (by decide) ?_
      refine lv_iadd hx hb dX7_append_37 ?_
      refine tpi (nI_add len 1) ?_
      refine mp S hK hP hI hS hk hk_1 fd_X7_15 rfl rfl (Nat.le_of_ble_eq_true rfl) dX7_append_38 (fun g_2 H locs eg_2 hP hS => ?_)
      have hk_2 : g_2 k = .inr (7, [.ref (ad kv), .int (nI (len + 1))]) := by rw [eg_2, va_up_self]; exact rfl
      have hkv_2 : g_2 kv = .inl (cy 1, 16, .inl (fun x9 => nI ((va_up V len v) x9))) := ((congrFun eg_2 _).trans (va_up_ne _ _ (by omega))).trans hkv_1
      have hfr_2 : ∀ j : Nat, j ≠ kv → j ≠ k → g_2 j = g j := fun j n0 n1 => ((congrFun eg_2 _).trans (va_up_ne _ _ n1)).trans (hfr_1 j n0)
      refine lv_iconst (v := nI (1)) hx hb dX7_append_41 (by decide) ?_
      exact rMz S hr hlk (by first | exact Or.inl rfl | exact Or.inr rfl) hP hS ⟨(ifT (by omega)), (by rw [apVL, if_pos (by omega)]; exact hk_2), (by rw [apV, if_pos (by omega)]; exact hkv_2), (fun j n0 n1 => hfr_2 j (by omega) (by omega))⟩ dX7_append_42
    · skip
      have c_16 := (not_congr (nI_ltI (by omega) (by omega))).mp c_16
      refine lv_iconst (v := nI (0)) hx hb dX7_append_19 (by decide) ?_
      exact rMz S hr hlk (by first | exact Or.inl rfl | exact Or.inr rfl) hP hS ⟨(ifF (by omega)), (by rw [apVL, if_neg (by omega)]; exact hg), (by rw [apV, if_neg (by omega)]; exact hgv), (fun j n0 n1 => hfr j )⟩ dX7_append_20
set_option maxHeartbeats 4000000 in
set_option maxRecDepth 100000 in
theorem c_X7_figureAt (l : Launch) (D : va_G) (cy : Nat → ClassId) (ad : Nat → Nat) (N : Nat) (g : Nat → va_E) (k : Nat) (hk : k < N) (kv : Nat) (hkv : kv < N) (len : Nat) (V : Nat → Nat) (hg : g k = .inr (7, [.ref (ad kv), .int (nI (len))])) (hgv : g kv = .inl (cy 1, 16, .inl (fun x9 => nI (V x9)))) (hkk : k ≠ kv) (hlen : len ≤ 16) (hV : ∀ i, V i < 8) (i : Nat) (hi : i < 2 ^ 31) : Met l yX7_figureAt (WS yX7_figureAt cX7_figureAt 2 (some .int)) (rmF 0 0) (PP [.ref (ad k), .int (nI (i))] D cy ad N g) (vp_Si (fun r => r = if i < len then nI (V i) else -4)) 0 0 (fun _ => False) := by
  refine mentry (by decide) (Nat.le_of_ble_eq_true rfl) (fun p e s m below meth c ls S hr hlk hnm hP hK hl => ?_)
  have S : CallFix p m c cX7_figureAt 2 s _ wsL_law RX7 := S
  have hx := S.1
  have hb := S.2.1
  have hl : lv_has ls 2 [(0, .ref (ad k)), (1, .int (nI (i)))] := hl
  refine lv_iload_n hx hb dX7_figureAt_0 rfl (lv_at hl 1 rfl) ?_
  refine lv_if_lt (tgt := 30) hx hb dX7_figureAt_1 (by decide) (fun c_1 => ?_) (fun c_1 => ?_)
  · skip
    have c_1 := (z_lt (by omega)).mp c_1
    exact c_1.elim
  · skip
    have c_1 := (not_congr (z_lt (by omega))).mp c_1
    refine lv_iload_n hx hb dX7_figureAt_4 rfl (lv_at hl 1 rfl) ?_
    refine lv_aload_n hx hb dX7_figureAt_5 rfl (lv_at hl 0 rfl) ?_
    refine mg S hK hP hk hg fd_X7_15 rfl dX7_figureAt_6 ?_
    refine lv_icmp_ge (tgt := 30) hx hb dX7_figureAt_9 (by decide) (fun c_9 => ?_) (fun c_9 => ?_)
    · skip
      have c_9 := (nI_leI (by omega) (by omega)).mp c_9
      refine lv_bipush (v := (-4)) hx hb dX7_figureAt_30 (by decide) ?_
      exact rSi S hr hlk (if_neg (by omega)).symm dX7_figureAt_32
    · skip
      have c_9 := (not_congr (nI_leI (by omega) (by omega))).mp c_9
      refine lv_iload_n hx hb dX7_figureAt_12 rfl (lv_at hl 1 rfl) ?_
      refine lv_aload_n hx hb dX7_figureAt_13 rfl (lv_at hl 0 rfl) ?_
      refine mg S hK hP hk hg fd_X7_9 rfl dX7_figureAt_14 ?_
      refine malen S hK hP hkv hgv rfl (v := nI 16) rfl dX7_figureAt_17 ?_
      refine lv_icmp_ge (tgt := 30) hx hb dX7_figureAt_18 (by decide) (fun c_18 => ?_) (fun c_18 => ?_)
      · skip
        have c_18 := (nI_leI (by omega) (by omega)).mp c_18
        exact absurd c_18 (by omega)
      · skip
        have c_18 := (not_congr (nI_leI (by omega) (by omega))).mp c_18
        refine lv_aload_n hx hb dX7_figureAt_21 rfl (lv_at hl 0 rfl) ?_
        refine mg S hK hP hk hg fd_X7_9 rfl dX7_figureAt_22 ?_
        refine lv_iload_n hx hb dX7_figureAt_25 rfl (lv_at hl 1 rfl) ?_
        refine mial S hK hP hkv hgv (vp_in_nI (by omega) (by omega)) dX7_figureAt_26 ?_
        refine tpi (congrArg ((fun x9 => nI (V x9))) (nI_clamp (by omega))) ?_
        refine lv_goto (tgt := 32) hx hb dX7_figureAt_27 (by decide) ?_
        exact rSi S hr hlk (if_pos (by omega)).symm dX7_figureAt_32
set_option maxHeartbeats 4000000 in
set_option maxRecDepth 100000 in
theorem c_X7_placeFrom (l : Launch) (D : va_G) (cy : Nat → ClassId) (ad : Nat → Nat) (N : Nat) (g : Nat → va_E) (k : Nat) (hk : k < N) (kv : Nat) (hkv : kv < N) (len : Nat) (V : Nat → Nat) (hg : g k = .inr (7, [.ref (ad kv), .int (nI (len))])) (hgv : g kv = .inl (cy 1, 16, .inl (fun x9 => nI (V x9)))) (hkk : k ≠ kv) (hlen : len ≤ 16) (hV : ∀ i, V i < 8) (i : Nat) (hi : i ≤ len) (f : Nat) (hf : f < 2 ^ 31) : Met l yX7_placeFrom (WS yX7_placeFrom cX7_placeFrom 4 (some .int)) (rmF 1 21) (PP [.ref (ad k), .int (nI (i)), .int (nI (f))] D cy ad N g) (vp_Si (fun r => r = if pfr V len f i < len then nI (pfr V len f i) else -4)) 0 0 (fun _ => False) := by
  refine mentry (by decide) (Nat.le_of_ble_eq_true rfl) (fun p e s m below meth c ls S hr hlk hnm hP hK hl => ?_)
  have S : CallFix p m c cX7_placeFrom 4 s _ wsL_law RX7 := S
  have hx := S.1
  have hb := S.2.1
  have hl : lv_has ls 4 [(0, .ref (ad k)), (1, .int (nI (i))), (2, .int (nI (f)))] := hl
  refine lv_iload_n hx hb dX7_placeFrom_0 rfl (lv_at hl 1 rfl) ?_
  refine lv_istore_n (lv' := [(3, .int (nI (i))), (0, .ref (ad k)), (1, .int (nI (i))), (2, .int (nI (f)))]) hx hb dX7_placeFrom_1 rfl hl (by decide) rfl (fun ls hl => ?_)
  have L2 : ∀ (fu : Nat) (j : Nat), (j ≤ len) → (i ≤ j) → (∀ k, i ≤ k → k < j → decide (V k = f) = false) → (len - j) < fu → ∀ (ls : Array Slot), lv_has ls 4 [(3, .int (nI (j))), (0, .ref (ad k)), (1, .int (nI (i))), (2, .int (nI (f)))] → W p l e (rmF 1 21) s m [.ref (ad k), .int (nI (i)), .int (nI (f))].toArray below meth c s.heap [] 0 0 (MQ below (vp_Si (fun r => r = if pfr V len f i < len then nI (pfr V len f i) else -4)) [.ref (ad k), .int (nI (i)), .int (nI (f))].toArray s 0 0 (fun _ => False)) (F0 m 2 ls []) := by
    intro fu
    induction fu with
    | zero => intro j hj hij hno hms ls hl; exact absurd hms (Nat.not_lt_zero _)
    | succ fu ih2 =>
      intro j hj hij hno hms ls hl
      refine lv_iload_n hx hb dX7_placeFrom_2 rfl (lv_at hl 0 rfl) ?_
      refine lv_aload_n hx hb dX7_placeFrom_3 rfl (lv_at hl 1 rfl) ?_
      refine mg S hK hP hk hg fd_X7_15 rfl dX7_placeFrom_4 ?_
      refine lv_icmp_ge (tgt := 27) hx hb dX7_placeFrom_7 (by decide) (fun c_7 => ?_) (fun c_7 => ?_)
      · skip
        have c_7 := (nI_leI (by omega) (by omega)).mp c_7
        refine lv_bipush (v := (-4)) hx hb dX7_placeFrom_27 (by decide) ?_
        have hR : pfr V len f i = len := fsr_none (by omega) (fun k a b => hno k a (by omega))
        exact rSi S hr hlk (by rw [hR, if_neg (by omega)]) dX7_placeFrom_29
      · skip
        have c_7 := (not_congr (nI_leI (by omega) (by omega))).mp c_7
        refine lv_aload_n hx hb dX7_placeFrom_10 rfl (lv_at hl 1 rfl) ?_
        refine lv_iload_n hx hb dX7_placeFrom_11 rfl (lv_at hl 0 rfl) ?_
        refine kVi (As := [.int (nI (j))]) (rest := []) S hK hP (c_X7_figureAt l D cy ad N g k hk kv hkv len V hg hgv (by omega) hlen hV j (by omega)) cv_X7_19 hk hg ⟨_, _, rfl⟩ ⟨rfl, rfl⟩ rfl hl.1 rfl (Nat.le_of_ble_eq_true rfl) ⟨Nat.zero_le _, Nat.zero_le _⟩ dX7_placeFrom_12 (fun r_12 q_12 => ?_)
        subst q_12
        refine tpi (if_pos (by omega)) ?_
        have hVj := hV j
        refine lv_iload_n hx hb dX7_placeFrom_15 rfl (lv_at hl 3 rfl) ?_
        refine lv_icmp_ne (tgt := 21) hx hb dX7_placeFrom_16 (by decide) (fun c_16 => ?_) (fun c_16 => ?_)
        · skip
          have c_16 := (not_congr (nI_eq (by omega) (by omega))).mp c_16
          refine lv_iinc (v := nI (j + 1)) (lv' := [(3, .int (nI (j + 1))), (0, .ref (ad k)), (1, .int (nI (i))), (2, .int (nI (f)))]) hx hb dX7_placeFrom_21 hl (k := 0) rfl (by exact nI_add j 1) (by decide) rfl (fun ls hl => ?_)
          refine lv_goto (tgt := 2) hx hb dX7_placeFrom_24 (by decide) ?_
          exact ih2 (j + 1) (by omega) (by omega) (fun k a b => by rcases Nat.lt_or_ge k j with q | q; exact hno k a q; rw [show k = j by omega]; exact decide_eq_false c_16) (by omega) _ (lv_sub hl [0, 1, 2, 3] rfl)
        · skip
          have c_16 := (nI_eq (by omega) (by omega)).mp c_16
          refine lv_iload_n hx hb dX7_placeFrom_19 rfl (lv_at hl 0 rfl) ?_
          have hR : pfr V len f i = j := fsr_stop (by omega) (by omega) hno (decide_eq_true c_16)
          exact rSi S hr hlk (by rw [hR, if_pos (by omega)]) dX7_placeFrom_20
  exact L2 ((len - i) + 1) i (by omega) (by omega) (fun k a b => by omega) (Nat.lt_succ_self _) _ (lv_sub hl [0, 1, 2, 3] rfl)
set_option maxHeartbeats 4000000 in
set_option maxRecDepth 100000 in
theorem c_J7_fill_53178 (l : Launch) (D : va_G) (cy : Nat → ClassId) (ad : Nat → Nat) (N : Nat) (g : Nat → va_E) (hinj : ∀ i j : Nat, i < N → j < N → ad i = ad j → i = j) (k : Nat) (hk : k < N) (n9 : Nat) (C : Nat → Int32) (v0 : Int32) (hg : g k = .inl (cy 1, n9, .inl C)) (hn9 : n9 < 2 ^ 30) : Met l yJ7_fill_53178 (WS yJ7_fill_53178 cJ7_fill_53178 4 none) (rmF 0 0) (PP [.ref (ad k), .int v0] D cy ad N g) (QV (fun g1 => g1 k = .inl (cy 1, n9, .inl (flC n9 v0 C)) ∧ (∀ j, j ≠ k → g1 j = g j)) D ad N) 0 0 (AA ad N) := by
  refine mentry (by decide) (Nat.le_of_ble_eq_true rfl) (fun p e s m below meth c ls S hr hlk hnm hP hK hl => ?_)
  have S : CallFix p m c cJ7_fill_53178 4 s _ wsL_law RJ7 := S
  have hx := S.1
  have hb := S.2.1
  have hl : lv_has ls 4 [(0, .ref (ad k)), (1, .int v0)] := hl
  have hI : MD (AA ad N) ad N := MD.in hinj
  have hS : va_S (AA ad N) s.heap s.heap [] := va_S.rf
  have hfr : ∀ j : Nat, g j = g j := fun _ => rfl
  refine lv_iconst (v := nI (0)) hx hb dJ7_fill_53178_0 (by decide) ?_
  refine lv_istore_n (lv' := [(2, .int (nI (0))), (0, .ref (ad k)), (1, .int v0)]) hx hb dJ7_fill_53178_1 rfl hl (by decide) rfl (fun ls hl => ?_)
  refine lv_aload_n hx hb dJ7_fill_53178_2 rfl (lv_at hl 1 rfl) ?_
  refine malen S hK hP hk hg rfl (v := nI n9) rfl dJ7_fill_53178_3 ?_
  refine lv_istore_n (lv' := [(3, .int (nI (n9))), (2, .int (nI (0))), (0, .ref (ad k)), (1, .int v0)]) hx hb dJ7_fill_53178_4 rfl hl (by decide) rfl (fun ls hl => ?_)
  have L5 : ∀ (fu : Nat) (i : Nat), (i ≤ n9) → (n9 - i) < fu → ∀ (g_1 : Nat → va_E) (H : Heap) (locs : List Loc), g_1 k = .inl (cy 1, n9, .inl (flC i v0 C)) → (∀ j : Nat, j ≠ k → g_1 j = g j) → MM D ad N g_1 H → va_S (AA ad N) s.heap H locs → ∀ (ls : Array Slot), lv_has ls 4 [(3, .int (nI (n9))), (2, .int (nI (i))), (0, .ref (ad k)), (1, .int v0)] → W p l e (rmF 0 0) s m [.ref (ad k), .int v0].toArray below meth c H locs 0 0 (MQ below (QV (fun g1 => g1 k = .inl (cy 1, n9, .inl (flC n9 v0 C)) ∧ (∀ j, j ≠ k → g1 j = g j)) D ad N) [.ref (ad k), .int v0].toArray s 0 0 (AA ad N)) (F0 m 5 ls []) := by
    intro fu
    induction fu with
    | zero => intro i hi hms g_1 H locs hk_1 hfr_1 hP hS ls hl; exact absurd hms (Nat.not_lt_zero _)
    | succ fu ih5 =>
      intro i hi hms g_1 H locs hk_1 hfr_1 hP hS ls hl
      refine lv_iload_n hx hb dJ7_fill_53178_5 rfl (lv_at hl 1 rfl) ?_
      refine lv_iload_n hx hb dJ7_fill_53178_6 rfl (lv_at hl 0 rfl) ?_
      refine lv_icmp_ge (tgt := 20) hx hb dJ7_fill_53178_7 (by decide) (fun c_7 => ?_) (fun c_7 => ?_)
      · skip
        have c_7 := (nI_leI (by omega) (by omega)).mp c_7
        exact rMv S hr hlk hP hS ⟨(by have e : i = n9 := (by omega); rw [← e]; rw [e] at hk_1 ⊢; exact hk_1), hfr_1⟩ dJ7_fill_53178_20
      · skip
        have c_7 := (not_congr (nI_leI (by omega) (by omega))).mp c_7
        refine lv_aload_n hx hb dJ7_fill_53178_10 rfl (lv_at hl 2 rfl) ?_
        refine lv_iload_n hx hb dJ7_fill_53178_11 rfl (lv_at hl 1 rfl) ?_
        refine lv_iload_n hx hb dJ7_fill_53178_12 rfl (lv_at hl 3 rfl) ?_
        refine mias S hK hP hI hS hk hk_1 (vp_in_nI (by omega) (by omega)) dJ7_fill_53178_13 (fun g_2 H locs eg_2 hP hS => ?_)
        have hk_2 : g_2 k = .inl (cy 1, n9, .inl (upd (flC i v0 C) i v0)) := by rw [eg_2, va_up_self]; exact (arrI_up (by omega))
        have hfr_2 : ∀ j : Nat, j ≠ k → g_2 j = g j := fun j n0 => ((congrFun eg_2 _).trans (va_up_ne _ _ n0)).trans (hfr_1 j n0)
        refine lv_iinc (v := nI (i + 1)) (lv' := [(2, .int (nI (i + 1))), (3, .int (nI (n9))), (0, .ref (ad k)), (1, .int v0)]) hx hb dJ7_fill_53178_14 hl (k := 1) rfl (by exact nI_add i 1) (by decide) rfl (fun ls hl => ?_)
        refine lv_goto (tgt := 5) hx hb dJ7_fill_53178_17 (by decide) ?_
        exact ih5 (i + 1) (by omega) (by omega) g_2 _ _ (by rw [← flC_s]; exact hk_2) hfr_2 hP hS _ (lv_sub hl [1, 0, 2, 3] rfl)
  exact L5 ((n9 - 0) + 1) 0 (by omega) (Nat.lt_succ_self _) g _ _ (by rw [← flC_0]; exact hg) (fun j n0 => hfr j ) hP hS _ (lv_sub hl [0, 1, 2, 3] rfl)
set_option maxHeartbeats 4000000 in
set_option maxRecDepth 100000 in
theorem c_X4_make (l : Launch) (D : va_G) (cy : Nat → ClassId) (ad : Nat → Nat) (N : Nat) (g : Nat → va_E) (hinj : ∀ i j : Nat, i < N → j < N → ad i = ad j → i = j) (k : Nat) (hk : k < N) (kc : Nat) (hkc : kc < N) (ln : Int32) (sz : Nat) (C : Nat → Int32) (hg : g k = .inr (4, [.ref (ad kc), .int ln, .int (nI (sz))])) (hgc : g kc = .inl (cy 1, 60, .inl C)) (hkk : k ≠ kc) (hsz : sz ≤ 60) (l0 : Int32) (n0 : Nat) : Met l yX4_make (WS yX4_make cX4_make 3 none) (rmF 1 23) (PP [.ref (ad k), .int l0, .int (nI (n0))] D cy ad N g) (QV (fun g1 => g1 k = .inr (4, [.ref (ad kc), .int l0, .int (nI (n0))]) ∧ g1 kc = .inl (cy 1, 60, .inl (flC 60 0 C)) ∧ (∀ j, j ≠ k → j ≠ kc → g1 j = g j)) D ad N) 0 0 (AA ad N) := by
  refine mentry (by decide) (Nat.le_of_ble_eq_true rfl) (fun p e s m below meth c ls S hr hlk hnm hP hK hl => ?_)
  have S : CallFix p m c cX4_make 3 s _ wsL_law RX4 := S
  have hx := S.1
  have hb := S.2.1
  have hl : lv_has ls 3 [(0, .ref (ad k)), (1, .int l0), (2, .int (nI (n0)))] := hl
  have hI : MD (AA ad N) ad N := MD.in hinj
  have hS : va_S (AA ad N) s.heap s.heap [] := va_S.rf
  have hfr : ∀ j : Nat, g j = g j := fun _ => rfl
  refine lv_aload_n hx hb dX4_make_0 rfl (lv_at hl 0 rfl) ?_
  refine mg S hK hP hk hg fd_X4_9 rfl dX4_make_1 ?_
  refine lv_iconst (v := nI (0)) hx hb dX4_make_4 (by decide) ?_
  refine kSMv (As := [.ref (ad kc), .int (nI (0))]) (rest := []) S hK hP hS (fun _ h => h) (c_J7_fill_53178 l D cy ad N g hinj kc hkc 60 C (nI (0)) hgc (by omega)) cs_X4_19 ⟨rfl, rfl⟩ rfl hl.1 rfl (Nat.le_of_ble_eq_true rfl) ⟨Nat.zero_le _, Nat.zero_le _⟩ dX4_make_5 (fun g_1 H locs q_1 hP hS => ?_)
  obtain ⟨hkc_1, f_1⟩ := q_1
  have hk_1 : g_1 k = .inr (4, [.ref (ad kc), .int ln, .int (nI (sz))]) := (f_1 k (by omega)).trans hg
  have hfr_1 : ∀ j : Nat, j ≠ kc → g_1 j = g j := fun j n0 => (f_1 j n0).trans (hfr j )
  refine lv_aload_n hx hb dX4_make_8 rfl (lv_at hl 0 rfl) ?_
  refine lv_iload_n hx hb dX4_make_9 rfl (lv_at hl 1 rfl) ?_
  refine mp S hK hP hI hS hk hk_1 fd_X4_15 rfl rfl (Nat.le_of_ble_eq_true rfl) dX4_make_10 (fun g_2 H locs eg_2 hP hS => ?_)
  have hk_2 : g_2 k = .inr (4, [.ref (ad kc), .int l0, .int (nI (sz))]) := by rw [eg_2, va_up_self]; exact rfl
  have hkc_2 : g_2 kc = .inl (cy 1, 60, .inl (flC 60 (nI (0)) C)) := ((congrFun eg_2 _).trans (va_up_ne _ _ (by omega))).trans hkc_1
  have hfr_2 : ∀ j : Nat, j ≠ kc → j ≠ k → g_2 j = g j := fun j n0 n1 => ((congrFun eg_2 _).trans (va_up_ne _ _ n1)).trans (hfr_1 j n0)
  refine lv_aload_n hx hb dX4_make_13 rfl (lv_at hl 0 rfl) ?_
  refine lv_iload_n hx hb dX4_make_14 rfl (lv_at hl 2 rfl) ?_
  refine mp S hK hP hI hS hk hk_2 fd_X4_25 rfl rfl (Nat.le_of_ble_eq_true rfl) dX4_make_15 (fun g_3 H locs eg_3 hP hS => ?_)
  have hk_3 : g_3 k = .inr (4, [.ref (ad kc), .int l0, .int (nI (n0))]) := by rw [eg_3, va_up_self]; exact rfl
  have hkc_3 : g_3 kc = .inl (cy 1, 60, .inl (flC 60 (nI (0)) C)) := ((congrFun eg_3 _).trans (va_up_ne _ _ (by omega))).trans hkc_2
  have hfr_3 : ∀ j : Nat, j ≠ kc → j ≠ k → g_3 j = g j := fun j n0 n1 => ((congrFun eg_3 _).trans (va_up_ne _ _ n1)).trans (hfr_2 j n0 n1)
  exact rMv S hr hlk hP hS ⟨hk_3, hkc_3, (fun j n0 n1 => hfr_3 j (by omega) (by omega))⟩ dX4_make_18
set_option maxHeartbeats 4000000 in
set_option maxRecDepth 100000 in
theorem c_X4_isNothing (l : Launch) (D : va_G) (cy : Nat → ClassId) (ad : Nat → Nat) (N : Nat) (g : Nat → va_E) (k : Nat) (hk : k < N) (kc : Nat) (hkc : kc < N) (ln : Int32) (sz : Nat) (C : Nat → Int32) (hg : g k = .inr (4, [.ref (ad kc), .int ln, .int (nI (sz))])) (hgc : g kc = .inl (cy 1, 60, .inl C)) (hkk : k ≠ kc) (hsz : sz ≤ 60) : Met l yX4_isNothing (WS yX4_isNothing cX4_isNothing 1 (some .boolean)) (rmF 0 0) (PP [.ref (ad k)] D cy ad N g) (vp_Si (fun r => r = if ln = -1 then 1 else 0)) 0 0 (fun _ => False) := by
  refine mentry (by decide) (Nat.le_of_ble_eq_true rfl) (fun p e s m below meth c ls S hr hlk hnm hP hK hl => ?_)
  have S : CallFix p m c cX4_isNothing 1 s _ wsL_law RX4 := S
  have hx := S.1
  have hb := S.2.1
  have hl : lv_has ls 1 [(0, .ref (ad k))] := hl
  refine lv_aload_n hx hb dX4_isNothing_0 rfl (lv_at hl 0 rfl) ?_
  refine mg S hK hP hk hg fd_X4_15 rfl dX4_isNothing_1 ?_
  refine lv_iconst (v := (-1)) hx hb dX4_isNothing_4 (by decide) ?_
  refine lv_icmp_ne (tgt := 12) hx hb dX4_isNothing_5 (by decide) (fun c_5 => ?_) (fun c_5 => ?_)
  · skip
    refine lv_iconst (v := nI (0)) hx hb dX4_isNothing_12 (by decide) ?_
    exact rSz S hr hlk (by first | exact Or.inl rfl | exact Or.inr rfl) (ifF c_5) dX4_isNothing_13
  · skip
    refine lv_iconst (v := nI (1)) hx hb dX4_isNothing_8 (by decide) ?_
    refine lv_goto (tgt := 13) hx hb dX4_isNothing_9 (by decide) ?_
    exact rSz S hr hlk (by first | exact Or.inl rfl | exact Or.inr rfl) (ifT c_5) dX4_isNothing_13
set_option maxHeartbeats 4000000 in
set_option maxRecDepth 100000 in
theorem c_X4_has (l : Launch) (D : va_G) (cy : Nat → ClassId) (ad : Nat → Nat) (N : Nat) (g : Nat → va_E) (k : Nat) (hk : k < N) (kc : Nat) (hkc : kc < N) (ln : Int32) (sz : Nat) (C : Nat → Int32) (hg : g k = .inr (4, [.ref (ad kc), .int ln, .int (nI (sz))])) (hgc : g kc = .inl (cy 1, 60, .inl C)) (hkk : k ≠ kc) (hsz : sz ≤ 60) (i0 : Int32) : Met l yX4_has (WS yX4_has cX4_has 2 (some .boolean)) (rmF 0 0) (PP [.ref (ad k), .int i0] D cy ad N g) (vp_Si (fun r => (r = 1 ∧ inC sz i0) ∨ (r = 0 ∧ ¬ inC sz i0))) 0 0 (fun _ => False) := by
  refine mentry (by decide) (Nat.le_of_ble_eq_true rfl) (fun p e s m below meth c ls S hr hlk hnm hP hK hl => ?_)
  have S : CallFix p m c cX4_has 2 s _ wsL_law RX4 := S
  have hx := S.1
  have hb := S.2.1
  have hl : lv_has ls 2 [(0, .ref (ad k)), (1, .int i0)] := hl
  refine lv_iload_n hx hb dX4_has_0 rfl (lv_at hl 1 rfl) ?_
  refine lv_if_lt (tgt := 25) hx hb dX4_has_1 (by decide) (fun c_1 => ?_) (fun c_1 => ?_)
  · skip
    refine lv_iconst (v := nI (0)) hx hb dX4_has_25 (by decide) ?_
    exact rSz S hr hlk (by first | exact Or.inl rfl | exact Or.inr rfl) (Or.inr ⟨rfl, by first | exact inC_no1 c_1 | exact inC_no2 c_9⟩) dX4_has_26
  · skip
    refine lv_iload_n hx hb dX4_has_4 rfl (lv_at hl 1 rfl) ?_
    refine lv_aload_n hx hb dX4_has_5 rfl (lv_at hl 0 rfl) ?_
    refine mg S hK hP hk hg fd_X4_25 rfl dX4_has_6 ?_
    refine lv_icmp_ge (tgt := 25) hx hb dX4_has_9 (by decide) (fun c_9 => ?_) (fun c_9 => ?_)
    · skip
      refine lv_iconst (v := nI (0)) hx hb dX4_has_25 (by decide) ?_
      exact rSz S hr hlk (by first | exact Or.inl rfl | exact Or.inr rfl) (Or.inr ⟨rfl, by first | exact inC_no1 c_1 | exact inC_no2 c_9⟩) dX4_has_26
    · skip
      refine lv_iload_n hx hb dX4_has_12 rfl (lv_at hl 1 rfl) ?_
      refine lv_aload_n hx hb dX4_has_13 rfl (lv_at hl 0 rfl) ?_
      refine mg S hK hP hk hg fd_X4_9 rfl dX4_has_14 ?_
      refine malen S hK hP hkc hgc rfl (v := nI 60) rfl dX4_has_17 ?_
      refine lv_icmp_ge (tgt := 25) hx hb dX4_has_18 (by decide) (fun c_18 => ?_) (fun c_18 => ?_)
      · skip
        exact (inC_60 hsz (inC_yes c_1 c_9) c_18).elim
      · skip
        refine lv_iconst (v := nI (1)) hx hb dX4_has_21 (by decide) ?_
        refine lv_goto (tgt := 26) hx hb dX4_has_22 (by decide) ?_
        exact rSz S hr hlk (by first | exact Or.inl rfl | exact Or.inr rfl) (Or.inl ⟨rfl, inC_yes c_1 c_9⟩) dX4_has_26
set_option maxHeartbeats 4000000 in
set_option maxRecDepth 100000 in
theorem c_X4_cellAt (l : Launch) (D : va_G) (cy : Nat → ClassId) (ad : Nat → Nat) (N : Nat) (g : Nat → va_E) (k : Nat) (hk : k < N) (kc : Nat) (hkc : kc < N) (ln : Int32) (sz : Nat) (C : Nat → Int32) (hg : g k = .inr (4, [.ref (ad kc), .int ln, .int (nI (sz))])) (hgc : g kc = .inl (cy 1, 60, .inl C)) (hkk : k ≠ kc) (hsz : sz ≤ 60) (i0 : Int32) : Met l yX4_cellAt (WS yX4_cellAt cX4_cellAt 2 (some .int)) (rmF 1 21) (PP [.ref (ad k), .int i0] D cy ad N g) (vp_Si (fun r => (inC sz i0 → r = C i0.toNatClampNeg) ∧ (¬ inC sz i0 → r = 0))) 0 0 (fun _ => False) := by
  refine mentry (by decide) (Nat.le_of_ble_eq_true rfl) (fun p e s m below meth c ls S hr hlk hnm hP hK hl => ?_)
  have S : CallFix p m c cX4_cellAt 2 s _ wsL_law RX4 := S
  have hx := S.1
  have hb := S.2.1
  have hl : lv_has ls 2 [(0, .ref (ad k)), (1, .int i0)] := hl
  refine lv_aload_n hx hb dX4_cellAt_0 rfl (lv_at hl 0 rfl) ?_
  refine lv_iload_n hx hb dX4_cellAt_1 rfl (lv_at hl 1 rfl) ?_
  refine kVi (As := [.int i0]) (rest := []) S hK hP (c_X4_has l D cy ad N g k hk kc hkc ln sz C hg hgc (by omega) hsz i0) cv_X4_28 hk hg ⟨_, _, rfl⟩ ⟨rfl, rfl⟩ rfl hl.1 rfl (Nat.le_of_ble_eq_true rfl) ⟨Nat.zero_le _, Nat.zero_le _⟩ dX4_cellAt_2 (fun r_2 q_2 => ?_)
  refine lv_if_eq (tgt := 17) hx hb dX4_cellAt_5 (by decide) (fun c_5 => ?_) (fun c_5 => ?_)
  · skip
    refine lv_iconst (v := nI (0)) hx hb dX4_cellAt_17 (by decide) ?_
    exact rSi S hr hlk ⟨fun q => by rcases q_2 with z | z; rw [z.1] at c_5; exact absurd c_5 (by decide); exact absurd q z.2, fun q => rfl⟩ dX4_cellAt_18
  · skip
    have hin : inC sz i0 := by rcases q_2 with q | q; exact q.2; exact absurd q.1 (by first | exact c_5 | (intro z; exact c_5 z))
    obtain ⟨j, hj, rfl⟩ := inC_nat hsz hin
    refine lv_aload_n hx hb dX4_cellAt_8 rfl (lv_at hl 0 rfl) ?_
    refine mg S hK hP hk hg fd_X4_9 rfl dX4_cellAt_9 ?_
    refine lv_iload_n hx hb dX4_cellAt_12 rfl (lv_at hl 1 rfl) ?_
    refine mial S hK hP hkc hgc (vp_in_nI (by omega) (by omega)) dX4_cellAt_13 ?_
    refine tpi (congrArg C (nI_clamp (by omega))) ?_
    refine lv_goto (tgt := 18) hx hb dX4_cellAt_14 (by decide) ?_
    exact rSi S hr hlk ⟨fun q => by rw [nI_clamp (by omega)], fun q => absurd hin q⟩ dX4_cellAt_18

set_option maxHeartbeats 4000000 in
set_option maxRecDepth 100000 in
theorem c_X8_letGo (l : Launch) (D : va_G) (cy : Nat → ClassId) (ad : Nat → Nat) (N : Nat) (g : Nat → va_E) (hinj : ∀ i j : Nat, i < N → j < N → ad i = ad j → i = j) (k : Nat) (hk : k < N) (w : WT) (hg : g k = .inr (8, [.int (nI (wn w)), .long (lN (sea (wd w) (wn w))), .int (nI (wf w)), .int (nI (wh w)), .long (lN (wo w))])) (hw : WOK w) (K : Nat) (hKn : K < wn w) : Met l yX8_letGo (WS yX8_letGo cX8_letGo 2 (some .int)) (rmF 0 0) (PP [.ref (ad k), .int (nI (K))] D cy ad N g) (QI (fun r g1 => (r = (chgN w 4 K).1) ∧ g1 k = .inr (8, [.int (nI (wn ((chgN w 4 K).2))), .long (lN (sea (wd ((chgN w 4 K).2)) (wn ((chgN w 4 K).2)))), .int (nI (wf ((chgN w 4 K).2))), .int (nI (wh ((chgN w 4 K).2))), .long (lN (wo ((chgN w 4 K).2)))]) ∧ (∀ j, j ≠ k → g1 j = g j)) D ad N) 0 0 (AA ad N) := by
  refine mentry (by decide) (Nat.le_of_ble_eq_true rfl) (fun p e s m below meth c ls S hr hlk hnm hP hK hl => ?_)
  have S : CallFix p m c cX8_letGo 2 s _ wsL_law RX8 := S
  have hx := S.1
  have hb := S.2.1
  have hl : lv_has ls 2 [(0, .ref (ad k)), (1, .int (nI (K)))] := hl
  have hI : MD (AA ad N) ad N := MD.in hinj
  have hS : va_S (AA ad N) s.heap s.heap [] := va_S.rf
  have hfr : ∀ j : Nat, g j = g j := fun _ => rfl
  have hn4 := hw.1.1
  have hn8 := hw.1.2
  have hpm := hw.2.1
  have hda := hpm.1
  have hf := lt256 hw.2.2.1 hn8
  have hh := lt256 hw.2.2.2.1 hn8
  have ho := hw.2.2.2.2.1
  refine lv_aload_n hx hb dX8_letGo_0 rfl (lv_at hl 0 rfl) ?_
  refine mg S hK hP hk hg fd_X8_32 rfl dX8_letGo_1 ?_
  refine lv_iload_n hx hb dX8_letGo_4 rfl (lv_at hl 1 rfl) ?_
  refine lv_iushr hx hb dX8_letGo_5 rfl ?_
  refine tpi (ushN (by omega) (by omega)) ?_
  refine lv_iconst (v := nI (1)) hx hb dX8_letGo_6 (by decide) ?_
  refine lv_iand hx hb dX8_letGo_7 ?_
  refine tpi (nx_and ((wh w) / 2 ^ K) 1) ?_
  have hz : wh w / 2 ^ K &&& 1 ≤ 1 := Nat.and_le_right
  refine lv_if_ne (tgt := 14) hx hb dX8_letGo_8 (by decide) (fun c_8 => ?_) (fun c_8 => ?_)
  · skip
    have c_8 := (not_congr (z_eq (by omega))).mp c_8
    refine lv_aload_n hx hb dX8_letGo_14 rfl (lv_at hl 0 rfl) ?_
    refine lv_dup hx hb dX8_letGo_15 rfl ?_
    refine mg S hK hP hk hg fd_X8_32 rfl dX8_letGo_16 ?_
    refine lv_iconst (v := nI (1)) hx hb dX8_letGo_19 (by decide) ?_
    refine lv_iload_n hx hb dX8_letGo_20 rfl (lv_at hl 1 rfl) ?_
    refine lv_ishl hx hb dX8_letGo_21 ?_
    refine tpi (shlN 1 (by omega)) ?_
    refine tpi (by rw [Nat.one_mul]) ?_
    refine lv_iconst (v := (-1)) hx hb dX8_letGo_22 (by decide) ?_
    refine lv_ixor hx hb dX8_letGo_23 ?_
    refine lv_iand hx hb dX8_letGo_24 ?_
    refine tpi (nI_an _ _) ?_
    refine mp S hK hP hI hS hk hg fd_X8_32 rfl rfl (Nat.le_of_ble_eq_true rfl) dX8_letGo_25 (fun g_1 H locs eg_1 hP hS => ?_)
    have hk_1 : g_1 k = .inr (8, [.int (nI (wn w)), .long (lN (sea (wd w) (wn w))), .int (nI (wf w)), .int (nI (an (wh w) (2 ^ K))), .long (lN (wo w))]) := by rw [eg_1, va_up_self]; exact rfl
    have hfr_1 : ∀ j : Nat, j ≠ k → g_1 j = g j := fun j n0 => ((congrFun eg_1 _).trans (va_up_ne _ _ n0)).trans (hfr j )
    refine lv_aload_n hx hb dX8_letGo_28 rfl (lv_at hl 0 rfl) ?_
    refine lv_dup hx hb dX8_letGo_29 rfl ?_
    refine mg S hK hP hk hk_1 fd_X8_35 rfl dX8_letGo_30 ?_
    refine lv_ldc2 hx hb S.2.2.2.1 (S.2.2.2.2 _ m_X8_89) dX8_letGo_33 ?_
    refine tpl (show (255 : Int64) = lN 255 from rfl) ?_
    refine lv_bipush (v := nI (8)) hx hb dX8_letGo_36 (by decide) ?_
    refine lv_iload_n hx hb dX8_letGo_38 rfl (lv_at hl 1 rfl) ?_
    refine lv_imul hx hb dX8_letGo_39 ?_
    refine tpi (pk_mul 8 K) ?_
    refine lv_lshl hx hb dX8_letGo_40 rfl ?_
    refine tpl (wb_shl 255 (k := 8 * K) (by omega)) ?_
    refine lv_ldc2 hx hb S.2.2.2.1 (S.2.2.2.2 _ m_X8_91) dX8_letGo_41 ?_
    refine tpl (show (72340172838076673 : Int64) = lN 72340172838076673 from rfl) ?_
    refine lv_iload_n hx hb dX8_letGo_44 rfl (lv_at hl 1 rfl) ?_
    refine lv_lshl hx hb dX8_letGo_45 rfl ?_
    refine tpl (wb_shl 72340172838076673 (k := K) (by omega)) ?_
    refine lv_lor hx hb dX8_letGo_46 ?_
    refine tpl (wb_or (rc_a K (by omega)) (rc_b K (by omega))) ?_
    refine lv_ldc2 hx hb S.2.2.2.1 (S.2.2.2.2 _ m_X8_93) dX8_letGo_47 ?_
    refine lv_lxor hx hb dX8_letGo_50 ?_
    refine lv_land hx hb dX8_letGo_51 ?_
    refine tpl (lN_an _ _) ?_
    refine mp S hK hP hI hS hk hk_1 fd_X8_35 rfl rfl (Nat.le_of_ble_eq_true rfl) dX8_letGo_52 (fun g_2 H locs eg_2 hP hS => ?_)
    have hk_2 : g_2 k = .inr (8, [.int (nI (wn w)), .long (lN (sea (wd w) (wn w))), .int (nI (wf w)), .int (nI (an (wh w) (2 ^ K))), .long (lN (an (wo w) (rc K)))]) := by rw [eg_2, va_up_self]; exact rfl
    have hfr_2 : ∀ j : Nat, j ≠ k → g_2 j = g j := fun j n0 => ((congrFun eg_2 _).trans (va_up_ne _ _ n0)).trans (hfr_1 j n0)
    refine lv_iconst (v := nI (1)) hx hb dX8_letGo_55 (by decide) ?_
    have e4 := chgN_4t (w := w) (K := K) (b1_1 c_8)
    exact rMi S hr hlk hP hS ⟨(by first | (rw [e4]; done) | (rw [e4]; rfl)), (by rw [e4]; exact hk_2), hfr_2⟩ dX8_letGo_56
  · skip
    have c_8 := (z_eq (by omega)).mp c_8
    refine lv_bipush (v := (-2)) hx hb dX8_letGo_11 (by decide) ?_
    have e4 := chgN_4f (w := w) (K := K) (b1_0 c_8)
    exact rMi S hr hlk hP hS ⟨(by first | (rw [e4]; done) | (rw [e4]; rfl)), (by rw [e4]; exact hg), (fun j n0 => hfr j )⟩ dX8_letGo_13
set_option maxHeartbeats 4000000 in
set_option maxRecDepth 100000 in
theorem c_X8_takeUp (l : Launch) (D : va_G) (cy : Nat → ClassId) (ad : Nat → Nat) (N : Nat) (g : Nat → va_E) (hinj : ∀ i j : Nat, i < N → j < N → ad i = ad j → i = j) (k : Nat) (hk : k < N) (w : WT) (hg : g k = .inr (8, [.int (nI (wn w)), .long (lN (sea (wd w) (wn w))), .int (nI (wf w)), .int (nI (wh w)), .long (lN (wo w))])) (hw : WOK w) (K : Nat) (hKn : K < wn w) : Met l yX8_takeUp (WS yX8_takeUp cX8_takeUp 3 (some .int)) (rmF 1 22) (PP [.ref (ad k), .int (nI (K))] D cy ad N g) (QI (fun r g1 => (r = (chgN w 5 K).1) ∧ g1 k = .inr (8, [.int (nI (wn ((chgN w 5 K).2))), .long (lN (sea (wd ((chgN w 5 K).2)) (wn ((chgN w 5 K).2)))), .int (nI (wf ((chgN w 5 K).2))), .int (nI (wh ((chgN w 5 K).2))), .long (lN (wo ((chgN w 5 K).2)))]) ∧ (∀ j, j ≠ k → g1 j = g j)) D ad N) 0 0 (AA ad N) := by
  refine mentry (by decide) (Nat.le_of_ble_eq_true rfl) (fun p e s m below meth c ls S hr hlk hnm hP hK hl => ?_)
  have S : CallFix p m c cX8_takeUp 3 s _ wsL_law RX8 := S
  have hx := S.1
  have hb := S.2.1
  have hl : lv_has ls 3 [(0, .ref (ad k)), (1, .int (nI (K)))] := hl
  have hI : MD (AA ad N) ad N := MD.in hinj
  have hS : va_S (AA ad N) s.heap s.heap [] := va_S.rf
  have hfr : ∀ j : Nat, g j = g j := fun _ => rfl
  have hn4 := hw.1.1
  have hn8 := hw.1.2
  have hpm := hw.2.1
  have hda := hpm.1
  have hf := lt256 hw.2.2.1 hn8
  have hh := lt256 hw.2.2.2.1 hn8
  have ho := hw.2.2.2.2.1
  have hq := nx_lt hn4 hKn
  have hpk := hpm.2.1 K hKn
  have hpq := hpm.2.1 _ hq
  have hsu := su_lt hpk hpq
  refine lv_aload_n hx hb dX8_takeUp_0 rfl (lv_at hl 0 rfl) ?_
  refine lv_aload_n hx hb dX8_takeUp_1 rfl (lv_at hl 0 rfl) ?_
  refine lv_iload_n hx hb dX8_takeUp_2 rfl (lv_at hl 1 rfl) ?_
  refine kVi (As := [.int (nI (K))]) (rest := [.ref (ad k)]) S hK hP (c_X8_placeOf l D cy ad N g k hk (wn w) (wd w) (wf w) (wh w) (wo w) hg hn4 hn8 (wp w) hpm K (by omega)) cv_X8_43 hk hg ⟨_, _, rfl⟩ ⟨rfl, rfl⟩ rfl hl.1 rfl (Nat.le_of_ble_eq_true rfl) ⟨Nat.zero_le _, Nat.zero_le _⟩ dX8_takeUp_3 (fun r_3 q_3 => ?_)
  subst q_3
  refine lv_aload_n hx hb dX8_takeUp_6 rfl (lv_at hl 0 rfl) ?_
  refine lv_aload_n hx hb dX8_takeUp_7 rfl (lv_at hl 0 rfl) ?_
  refine lv_iload_n hx hb dX8_takeUp_8 rfl (lv_at hl 1 rfl) ?_
  refine kVi (As := [.int (nI (K))]) (rest := [.ref (ad k), .int (nI ((wp w) K)), .ref (ad k)]) S hK hP (c_X8_next l D cy ad N g k hk (wn w) (wd w) (wf w) (wh w) (wo w) hg hn4 hn8 K (by omega)) cv_X8_75 hk hg ⟨_, _, rfl⟩ ⟨rfl, rfl⟩ rfl hl.1 rfl (Nat.le_of_ble_eq_true rfl) ⟨Nat.zero_le _, Nat.zero_le _⟩ dX8_takeUp_9 (fun r_9 q_9 => ?_)
  subst q_9
  refine kVi (As := [.int (nI (nx (wn w) K))]) (rest := [.int (nI ((wp w) K)), .ref (ad k)]) S hK hP (c_X8_placeOf l D cy ad N g k hk (wn w) (wd w) (wf w) (wh w) (wo w) hg hn4 hn8 (wp w) hpm (nx (wn w) K) (by omega)) cv_X8_43 hk hg ⟨_, _, rfl⟩ ⟨rfl, rfl⟩ rfl hl.1 rfl (Nat.le_of_ble_eq_true rfl) ⟨Nat.zero_le _, Nat.zero_le _⟩ dX8_takeUp_12 (fun r_12 q_12 => ?_)
  subst q_12
  refine kVi (As := [.int (nI ((wp w) K)), .int (nI ((wp w) (nx (wn w) K)))]) (rest := []) S hK hP (c_X8_stepsUp l D cy ad N g k hk (wn w) (wd w) (wf w) (wh w) (wo w) hg hn4 hn8 ((wp w) K) ((wp w) (nx (wn w) K)) (by omega) (by omega)) cv_X8_95 hk hg ⟨_, _, rfl⟩ ⟨rfl, rfl⟩ rfl hl.1 rfl (Nat.le_of_ble_eq_true rfl) ⟨Nat.zero_le _, Nat.zero_le _⟩ dX8_takeUp_15 (fun r_15 q_15 => ?_)
  subst q_15
  refine lv_istore_n (lv' := [(2, .int (nI (su (wn w) ((wp w) K) ((wp w) (nx (wn w) K))))), (0, .ref (ad k)), (1, .int (nI (K)))]) hx hb dX8_takeUp_18 rfl hl (by decide) rfl (fun ls hl => ?_)
  refine lv_aload_n hx hb dX8_takeUp_19 rfl (lv_at hl 1 rfl) ?_
  refine mg S hK hP hk hg fd_X8_32 rfl dX8_takeUp_20 ?_
  refine lv_iload_n hx hb dX8_takeUp_23 rfl (lv_at hl 2 rfl) ?_
  refine lv_iushr hx hb dX8_takeUp_24 rfl ?_
  refine tpi (ushN (by omega) (by omega)) ?_
  refine lv_iconst (v := nI (1)) hx hb dX8_takeUp_25 (by decide) ?_
  refine lv_iand hx hb dX8_takeUp_26 ?_
  refine tpi (nx_and ((wh w) / 2 ^ K) 1) ?_
  have hz : wh w / 2 ^ K &&& 1 ≤ 1 := Nat.and_le_right
  refine lv_if_ne (tgt := 45) hx hb dX8_takeUp_27 (by decide) (fun c_27 => ?_) (fun c_27 => ?_)
  · skip
    have c_27 := (not_congr (z_eq (by omega))).mp c_27
    refine lv_bipush (v := (-2)) hx hb dX8_takeUp_45 (by decide) ?_
    have e4 := chgN_5f (w := w) (K := K) (by first | exact Or.inl (b1_1 c_27) | exact Or.inr ⟨c_32, c_42⟩)
    exact rMi S hr hlk hP hS ⟨(by first | (rw [e4]; done) | (rw [e4]; rfl)), (by rw [e4]; exact hg), (fun j n0 => hfr j )⟩ dX8_takeUp_47
  · skip
    have c_27 := (z_eq (by omega)).mp c_27
    refine lv_iload_n hx hb dX8_takeUp_30 rfl (lv_at hl 0 rfl) ?_
    refine lv_iconst (v := nI (1)) hx hb dX8_takeUp_31 (by decide) ?_
    refine lv_icmp_eq (tgt := 48) hx hb dX8_takeUp_32 (by decide) (fun c_32 => ?_) (fun c_32 => ?_)
    · skip
      have c_32 := (nI_eq (by omega) (by omega)).mp c_32
      refine lv_aload_n hx hb dX8_takeUp_48 rfl (lv_at hl 1 rfl) ?_
      refine lv_dup hx hb dX8_takeUp_49 rfl ?_
      refine mg S hK hP hk hg fd_X8_32 rfl dX8_takeUp_50 ?_
      refine lv_iconst (v := nI (1)) hx hb dX8_takeUp_53 (by decide) ?_
      refine lv_iload_n hx hb dX8_takeUp_54 rfl (lv_at hl 2 rfl) ?_
      refine lv_ishl hx hb dX8_takeUp_55 ?_
      refine tpi (shlN 1 (by omega)) ?_
      refine tpi (by rw [Nat.one_mul]) ?_
      refine lv_ior hx hb dX8_takeUp_56 ?_
      refine tpi (nI_or (wh w) (2 ^ K)) ?_
      refine mp S hK hP hI hS hk hg fd_X8_32 rfl rfl (Nat.le_of_ble_eq_true rfl) dX8_takeUp_57 (fun g_1 H locs eg_1 hP hS => ?_)
      have hk_1 : g_1 k = .inr (8, [.int (nI (wn w)), .long (lN (sea (wd w) (wn w))), .int (nI (wf w)), .int (nI ((wh w) ||| (2 ^ K))), .long (lN (wo w))]) := by rw [eg_1, va_up_self]; exact rfl
      have hfr_1 : ∀ j : Nat, j ≠ k → g_1 j = g j := fun j n0 => ((congrFun eg_1 _).trans (va_up_ne _ _ n0)).trans (hfr j )
      refine lv_iconst (v := nI (1)) hx hb dX8_takeUp_60 (by decide) ?_
      have e4 := chgN_5t (w := w) (K := K) (b1_0 c_27) (by first | exact Or.inl c_32 | exact Or.inr c_42)
      exact rMi S hr hlk hP hS ⟨(by first | (rw [e4]; done) | (rw [e4]; rfl)), (by rw [e4]; exact hk_1), hfr_1⟩ dX8_takeUp_61
    · skip
      have c_32 := (not_congr (nI_eq (by omega) (by omega))).mp c_32
      refine lv_iload_n hx hb dX8_takeUp_35 rfl (lv_at hl 0 rfl) ?_
      refine lv_aload_n hx hb dX8_takeUp_36 rfl (lv_at hl 1 rfl) ?_
      refine mg S hK hP hk hg fd_X8_15 rfl dX8_takeUp_37 ?_
      refine lv_iconst (v := nI (1)) hx hb dX8_takeUp_40 (by decide) ?_
      refine lv_isub hx hb dX8_takeUp_41 ?_
      refine tpi (pk_sub (a := wn w) (b := 1) (by omega)) ?_
      refine lv_icmp_eq (tgt := 48) hx hb dX8_takeUp_42 (by decide) (fun c_42 => ?_) (fun c_42 => ?_)
      · skip
        have c_42 := (nI_eq (by omega) (by omega)).mp c_42
        refine lv_aload_n hx hb dX8_takeUp_48 rfl (lv_at hl 1 rfl) ?_
        refine lv_dup hx hb dX8_takeUp_49 rfl ?_
        refine mg S hK hP hk hg fd_X8_32 rfl dX8_takeUp_50 ?_
        refine lv_iconst (v := nI (1)) hx hb dX8_takeUp_53 (by decide) ?_
        refine lv_iload_n hx hb dX8_takeUp_54 rfl (lv_at hl 2 rfl) ?_
        refine lv_ishl hx hb dX8_takeUp_55 ?_
        refine tpi (shlN 1 (by omega)) ?_
        refine tpi (by rw [Nat.one_mul]) ?_
        refine lv_ior hx hb dX8_takeUp_56 ?_
        refine tpi (nI_or (wh w) (2 ^ K)) ?_
        refine mp S hK hP hI hS hk hg fd_X8_32 rfl rfl (Nat.le_of_ble_eq_true rfl) dX8_takeUp_57 (fun g_2 H locs eg_2 hP hS => ?_)
        have hk_2 : g_2 k = .inr (8, [.int (nI (wn w)), .long (lN (sea (wd w) (wn w))), .int (nI (wf w)), .int (nI ((wh w) ||| (2 ^ K))), .long (lN (wo w))]) := by rw [eg_2, va_up_self]; exact rfl
        have hfr_2 : ∀ j : Nat, j ≠ k → g_2 j = g j := fun j n0 => ((congrFun eg_2 _).trans (va_up_ne _ _ n0)).trans (hfr j )
        refine lv_iconst (v := nI (1)) hx hb dX8_takeUp_60 (by decide) ?_
        have e4 := chgN_5t (w := w) (K := K) (b1_0 c_27) (by first | exact Or.inl c_32 | exact Or.inr c_42)
        exact rMi S hr hlk hP hS ⟨(by first | (rw [e4]; done) | (rw [e4]; rfl)), (by rw [e4]; exact hk_2), hfr_2⟩ dX8_takeUp_61
      · skip
        have c_42 := (not_congr (nI_eq (by omega) (by omega))).mp c_42
        refine lv_bipush (v := (-2)) hx hb dX8_takeUp_45 (by decide) ?_
        have e4 := chgN_5f (w := w) (K := K) (by first | exact Or.inl (b1_1 c_27) | exact Or.inr ⟨c_32, c_42⟩)
        exact rMi S hr hlk hP hS ⟨(by first | (rw [e4]; done) | (rw [e4]; rfl)), (by rw [e4]; exact hg), (fun j n0 => hfr j )⟩ dX8_takeUp_47
set_option maxHeartbeats 4000000 in
set_option maxRecDepth 100000 in
theorem c_X8_change (l : Launch) (D : va_G) (cy : Nat → ClassId) (ad : Nat → Nat) (N : Nat) (g : Nat → va_E) (hinj : ∀ i j : Nat, i < N → j < N → ad i = ad j → i = j) (k : Nat) (hk : k < N) (w : WT) (hg : g k = .inr (8, [.int (nI (wn w)), .long (lN (sea (wd w) (wn w))), .int (nI (wf w)), .int (nI (wh w)), .long (lN (wo w))])) (hw : WOK w) (s0 : Int32) (k0 : Int32) : Met l yX8_change (WS yX8_change cX8_change 3 (some .int)) (rmF 3 68) (PP [.ref (ad k), .int s0, .int k0] D cy ad N g) (QI (fun r g1 => (r = (chg w s0 k0).1) ∧ g1 k = .inr (8, [.int (nI (wn ((chg w s0 k0).2))), .long (lN (sea (wd ((chg w s0 k0).2)) (wn ((chg w s0 k0).2)))), .int (nI (wf ((chg w s0 k0).2))), .int (nI (wh ((chg w s0 k0).2))), .long (lN (wo ((chg w s0 k0).2)))]) ∧ (∀ j, j ≠ k → g1 j = g j)) D ad N) 0 0 (AA ad N) := by
  refine mentry (by decide) (Nat.le_of_ble_eq_true rfl) (fun p e s m below meth c ls S hr hlk hnm hP hK hl => ?_)
  have S : CallFix p m c cX8_change 3 s _ wsL_law RX8 := S
  have hx := S.1
  have hb := S.2.1
  have hl : lv_has ls 3 [(0, .ref (ad k)), (1, .int s0), (2, .int k0)] := hl
  have hI : MD (AA ad N) ad N := MD.in hinj
  have hS : va_S (AA ad N) s.heap s.heap [] := va_S.rf
  have hfr : ∀ j : Nat, g j = g j := fun _ => rfl
  have hn4 := hw.1.1
  have hn8 := hw.1.2
  have hpm := hw.2.1
  have hda := hpm.1
  have hf := lt256 hw.2.2.1 hn8
  have hh := lt256 hw.2.2.2.1 hn8
  have ho := hw.2.2.2.2.1
  refine lv_iload_n hx hb dX8_change_0 rfl (lv_at hl 1 rfl) ?_
  refine lv_if_lt (tgt := 31) hx hb dX8_change_1 (by decide) (fun c_1 => ?_) (fun c_1 => ?_)
  · skip
    refine lv_iconst (v := (-1)) hx hb dX8_change_31 (by decide) ?_
    have hno : ¬ isA (wn w) s0 k0 := by rintro ⟨⟨q1, q2⟩, q3, q4⟩; first | exact absurd q1 (Int32.not_le.mpr c_1) | exact absurd q2 (Int32.not_le.mpr c_6) | exact absurd q3 (Int32.not_le.mpr c_10) | exact c_28 (by rw [hbd]; exact q4)
    exact rMi S hr hlk hP hS ⟨(by first | (rw [chg_no hno]; done) | (rw [chg_no hno]; rfl)), (by rw [chg_no hno]; exact hg), (fun j n0 => hfr j )⟩ dX8_change_32
  · skip
    refine lv_iload_n hx hb dX8_change_4 rfl (lv_at hl 1 rfl) ?_
    refine lv_iconst (v := nI (5)) hx hb dX8_change_5 (by decide) ?_
    refine lv_icmp_gt (tgt := 31) hx hb dX8_change_6 (by decide) (fun c_6 => ?_) (fun c_6 => ?_)
    · skip
      refine lv_iconst (v := (-1)) hx hb dX8_change_31 (by decide) ?_
      have hno : ¬ isA (wn w) s0 k0 := by rintro ⟨⟨q1, q2⟩, q3, q4⟩; first | exact absurd q1 (Int32.not_le.mpr c_1) | exact absurd q2 (Int32.not_le.mpr c_6) | exact absurd q3 (Int32.not_le.mpr c_10) | exact c_28 (by rw [hbd]; exact q4)
      exact rMi S hr hlk hP hS ⟨(by first | (rw [chg_no hno]; done) | (rw [chg_no hno]; rfl)), (by rw [chg_no hno]; exact hg), (fun j n0 => hfr j )⟩ dX8_change_32
    · skip
      refine lv_iload_n hx hb dX8_change_9 rfl (lv_at hl 2 rfl) ?_
      refine lv_if_lt (tgt := 31) hx hb dX8_change_10 (by decide) (fun c_10 => ?_) (fun c_10 => ?_)
      · skip
        refine lv_iconst (v := (-1)) hx hb dX8_change_31 (by decide) ?_
        have hno : ¬ isA (wn w) s0 k0 := by rintro ⟨⟨q1, q2⟩, q3, q4⟩; first | exact absurd q1 (Int32.not_le.mpr c_1) | exact absurd q2 (Int32.not_le.mpr c_6) | exact absurd q3 (Int32.not_le.mpr c_10) | exact c_28 (by rw [hbd]; exact q4)
        exact rMi S hr hlk hP hS ⟨(by first | (rw [chg_no hno]; done) | (rw [chg_no hno]; rfl)), (by rw [chg_no hno]; exact hg), (fun j n0 => hfr j )⟩ dX8_change_32
      · skip
        refine lv_iload_n hx hb dX8_change_13 rfl (lv_at hl 2 rfl) ?_
        refine lv_iload_n hx hb dX8_change_14 rfl (lv_at hl 1 rfl) ?_
        refine lv_iconst (v := nI (3)) hx hb dX8_change_15 (by decide) ?_
        have J28 : ∀ (bd : Nat), (bd = if s0 = 3 then 8 else wn w) → ∀ (ls : Array Slot), lv_has ls 3 [(0, .ref (ad k)), (1, .int s0), (2, .int k0)] → W p l e (rmF 3 68) s m [.ref (ad k), .int s0, .int k0].toArray below meth c s.heap [] 0 0 (MQ below (QI (fun r g1 => (r = (chg w s0 k0).1) ∧ g1 k = .inr (8, [.int (nI (wn ((chg w s0 k0).2))), .long (lN (sea (wd ((chg w s0 k0).2)) (wn ((chg w s0 k0).2)))), .int (nI (wf ((chg w s0 k0).2))), .int (nI (wh ((chg w s0 k0).2))), .long (lN (wo ((chg w s0 k0).2)))]) ∧ (∀ j, j ≠ k → g1 j = g j)) D ad N) [.ref (ad k), .int s0, .int k0].toArray s 0 0 (AA ad N)) (F0 m 28 ls [.int (nI (bd)), .int k0]) := by
          intro bd hbd ls hl
          refine lv_icmp_lt (tgt := 33) hx hb dX8_change_28 (by decide) (fun c_28 => ?_) (fun c_28 => ?_)
          · skip
            obtain ⟨S0, K0, hS0, hK0, rfl, rfl⟩ := isA_nat hn8 (show isA (wn w) s0 k0 from ⟨⟨Int32.not_lt.mp c_1, Int32.not_lt.mp c_6⟩, Int32.not_lt.mp c_10, by rw [hbd] at c_28; exact c_28⟩)
            refine lv_iload_n hx hb dX8_change_33 rfl (lv_at hl 1 rfl) ?_
            rcases (show S0 = 0 ∨ S0 = 1 ∨ S0 = 2 ∨ S0 = 3 ∨ S0 = 4 ∨ S0 = 5 by omega) with rfl | rfl | rfl | rfl | rfl | rfl
            · skip
              refine lv_tableIn (tgt := 68) hx hb dX8_change_34 (by decide) (by decide) rfl (by decide) ?_
              have hKn : K0 < wn w := hK0
              refine lv_aload_n hx hb dX8_change_68 rfl (lv_at hl 0 rfl) ?_
              refine lv_iload_n hx hb dX8_change_69 rfl (lv_at hl 2 rfl) ?_
              refine lv_iconst (v := nI (0)) hx hb dX8_change_70 (by decide) ?_
              refine kMi (As := [.int (nI (K0)), .int (nI (0))]) (rest := []) S hK hP hS (fun _ h => h) (c_X8_pass l D cy ad N g hinj k hk (wn w) (wd w) (wf w) (wh w) (wo w) hg hn4 hn8 hda ho hh K0 hKn 0 (by omega)) cv_X8_59 hk hg ⟨_, _, rfl⟩ ⟨rfl, rfl⟩ rfl hl.1 rfl (Nat.le_of_ble_eq_true rfl) ⟨Nat.zero_le _, Nat.zero_le _⟩ dX8_change_71 (fun r_71 g_1 H locs q_1 hP hS => ?_)
              obtain ⟨q_71, hk_1, f_1⟩ := q_1
              subst q_71
              have hfr_1 : ∀ j : Nat, j ≠ k → g_1 j = g j := fun j n0 => (f_1 j n0).trans (hfr j )
              exact rMi S hr hlk hP hS ⟨(by first | (rw [chg_yes (by omega) hK0 hw]; done) | (rw [chg_yes (by omega) hK0 hw]; rfl)), (by rw [chg_yes (by omega) hK0 hw]; exact hk_1), hfr_1⟩ dX8_change_74
            · skip
              refine lv_tableIn (tgt := 75) hx hb dX8_change_34 (by decide) (by decide) rfl (by decide) ?_
              have hKn : K0 < wn w := hK0
              refine lv_aload_n hx hb dX8_change_75 rfl (lv_at hl 0 rfl) ?_
              refine lv_iload_n hx hb dX8_change_76 rfl (lv_at hl 2 rfl) ?_
              refine lv_iconst (v := nI (1)) hx hb dX8_change_77 (by decide) ?_
              refine kMi (As := [.int (nI (K0)), .int (nI (1))]) (rest := []) S hK hP hS (fun _ h => h) (c_X8_pass l D cy ad N g hinj k hk (wn w) (wd w) (wf w) (wh w) (wo w) hg hn4 hn8 hda ho hh K0 hKn 1 (by omega)) cv_X8_59 hk hg ⟨_, _, rfl⟩ ⟨rfl, rfl⟩ rfl hl.1 rfl (Nat.le_of_ble_eq_true rfl) ⟨Nat.zero_le _, Nat.zero_le _⟩ dX8_change_78 (fun r_78 g_2 H locs q_2 hP hS => ?_)
              obtain ⟨q_78, hk_2, f_2⟩ := q_2
              subst q_78
              have hfr_2 : ∀ j : Nat, j ≠ k → g_2 j = g j := fun j n0 => (f_2 j n0).trans (hfr j )
              exact rMi S hr hlk hP hS ⟨(by first | (rw [chg_yes (by omega) hK0 hw]; done) | (rw [chg_yes (by omega) hK0 hw]; rfl)), (by rw [chg_yes (by omega) hK0 hw]; exact hk_2), hfr_2⟩ dX8_change_81
            · skip
              refine lv_tableIn (tgt := 82) hx hb dX8_change_34 (by decide) (by decide) rfl (by decide) ?_
              have hKn : K0 < wn w := hK0
              have hdk := hda K0 hKn
              refine lv_aload_n hx hb dX8_change_82 rfl (lv_at hl 0 rfl) ?_
              refine lv_dup hx hb dX8_change_83 rfl ?_
              refine mg S hK hP hk hg fd_X8_29 rfl dX8_change_84 ?_
              refine lv_iconst (v := nI (1)) hx hb dX8_change_87 (by decide) ?_
              refine lv_aload_n hx hb dX8_change_88 rfl (lv_at hl 0 rfl) ?_
              refine lv_iload_n hx hb dX8_change_89 rfl (lv_at hl 2 rfl) ?_
              refine kVi (As := [.int (nI (K0))]) (rest := [.int (nI (1)), .int (nI (wf w)), .ref (ad k)]) S hK hP (c_X8_dancerAt l D cy ad N g k hk (wn w) (wd w) (wf w) (wh w) (wo w) hg hn4 hn8 hda K0 hKn) cv_X8_63 hk hg ⟨_, _, rfl⟩ ⟨rfl, rfl⟩ rfl hl.1 rfl (Nat.le_of_ble_eq_true rfl) ⟨Nat.zero_le _, Nat.zero_le _⟩ dX8_change_90 (fun r_90 q_90 => ?_)
              subst q_90
              refine lv_ishl hx hb dX8_change_93 ?_
              refine tpi (shlN 1 (by omega)) ?_
              refine tpi (by rw [Nat.one_mul]) ?_
              refine lv_ixor hx hb dX8_change_94 ?_
              refine tpi (nx_xor (wf w) (2 ^ wd w K0)) ?_
              refine mp S hK hP hI hS hk hg fd_X8_29 rfl rfl (Nat.le_of_ble_eq_true rfl) dX8_change_95 (fun g_3 H locs eg_3 hP hS => ?_)
              have hk_3 : g_3 k = .inr (8, [.int (nI (wn w)), .long (lN (sea (wd w) (wn w))), .int (nI ((wf w) ^^^ (2 ^ wd w K0))), .int (nI (wh w)), .long (lN (wo w))]) := by rw [eg_3, va_up_self]; exact rfl
              have hfr_3 : ∀ j : Nat, j ≠ k → g_3 j = g j := fun j n0 => ((congrFun eg_3 _).trans (va_up_ne _ _ n0)).trans (hfr j )
              refine lv_iconst (v := nI (1)) hx hb dX8_change_98 (by decide) ?_
              exact rMi S hr hlk hP hS ⟨(by first | (rw [chg_yes (by omega) hK0 hw]; done) | (rw [chg_yes (by omega) hK0 hw]; rfl)), (by rw [chg_yes (by omega) hK0 hw]; exact hk_3), hfr_3⟩ dX8_change_99
            · skip
              refine lv_tableIn (tgt := 100) hx hb dX8_change_34 (by decide) (by decide) rfl (by decide) ?_
              have hKn : K0 < 8 := hK0
              have hwr := wr_le (K := K0) hn4 hKn
              refine lv_aload_n hx hb dX8_change_100 rfl (lv_at hl 0 rfl) ?_
              refine lv_aload_n hx hb dX8_change_101 rfl (lv_at hl 0 rfl) ?_
              refine lv_aload_n hx hb dX8_change_102 rfl (lv_at hl 0 rfl) ?_
              refine lv_iload_n hx hb dX8_change_103 rfl (lv_at hl 2 rfl) ?_
              refine kVi (As := [.int (nI (K0))]) (rest := [.ref (ad k), .ref (ad k)]) S hK hP (c_X8_withinRing l D cy ad N g k hk (wn w) (wd w) (wf w) (wh w) (wo w) hg hn4 hn8 K0 (by omega)) cv_X8_66 hk hg ⟨_, _, rfl⟩ ⟨rfl, rfl⟩ rfl hl.1 rfl (Nat.le_of_ble_eq_true rfl) ⟨Nat.zero_le _, Nat.zero_le _⟩ dX8_change_104 (fun r_104 q_104 => ?_)
              subst q_104
              refine kVl (As := [.int (nI (wr (wn w) K0))]) (rest := [.ref (ad k)]) S hK hP (c_X8_seatsAfter l D cy ad N g k hk (wn w) (wd w) (wf w) (wh w) (wo w) hg hn4 hn8 hda (wr (wn w) K0) (by omega)) cv_X8_47 hk hg ⟨_, _, rfl⟩ ⟨rfl, rfl⟩ rfl hl.1 rfl (Nat.le_of_ble_eq_true rfl) ⟨Nat.zero_le _, Nat.zero_le _⟩ dX8_change_107 (fun r_107 q_107 => ?_)
              subst q_107
              refine mp S hK hP hI hS hk hg fd_X8_25 rfl rfl (Nat.le_of_ble_eq_true rfl) dX8_change_110 (fun g_4 H locs eg_4 hP hS => ?_)
              have hk_4 : g_4 k = .inr (8, [.int (nI (wn w)), .long (lN (sea (rot (wn w) ((wr (wn w) K0) % (wn w)) (wd w)) (wn w))), .int (nI (wf w)), .int (nI (wh w)), .long (lN (wo w))]) := by rw [eg_4, va_up_self]; exact rfl
              have hfr_4 : ∀ j : Nat, j ≠ k → g_4 j = g j := fun j n0 => ((congrFun eg_4 _).trans (va_up_ne _ _ n0)).trans (hfr j )
              refine lv_iconst (v := nI (1)) hx hb dX8_change_113 (by decide) ?_
              exact rMi S hr hlk hP hS ⟨(by first | (rw [chg_yes (by omega) hK0 hw]; done) | (rw [chg_yes (by omega) hK0 hw]; rfl)), (by rw [chg_yes (by omega) hK0 hw]; exact hk_4), hfr_4⟩ dX8_change_114
            · skip
              refine lv_tableIn (tgt := 115) hx hb dX8_change_34 (by decide) (by decide) rfl (by decide) ?_
              have hKn : K0 < wn w := hK0
              refine lv_aload_n hx hb dX8_change_115 rfl (lv_at hl 0 rfl) ?_
              refine lv_iload_n hx hb dX8_change_116 rfl (lv_at hl 2 rfl) ?_
              refine kMi (As := [.int (nI (K0))]) (rest := []) S hK hP hS (fun _ h => h) (c_X8_letGo l D cy ad N g hinj k hk w hg hw K0 hKn) cv_X8_69 hk hg ⟨_, _, rfl⟩ ⟨rfl, rfl⟩ rfl hl.1 rfl (Nat.le_of_ble_eq_true rfl) ⟨Nat.zero_le _, Nat.zero_le _⟩ dX8_change_117 (fun r_117 g_5 H locs q_5 hP hS => ?_)
              obtain ⟨q_117, hk_5, f_5⟩ := q_5
              subst q_117
              have hfr_5 : ∀ j : Nat, j ≠ k → g_5 j = g j := fun j n0 => (f_5 j n0).trans (hfr j )
              exact rMi S hr hlk hP hS ⟨(by first | (rw [chg_yes (by omega) hK0 hw]; done) | (rw [chg_yes (by omega) hK0 hw]; rfl)), (by rw [chg_yes (by omega) hK0 hw]; exact hk_5), hfr_5⟩ dX8_change_120
            · skip
              refine lv_tableOut (tgt := 121) hx hb dX8_change_34 (by decide) (by decide) ?_
              have hKn : K0 < wn w := hK0
              refine lv_aload_n hx hb dX8_change_121 rfl (lv_at hl 0 rfl) ?_
              refine lv_iload_n hx hb dX8_change_122 rfl (lv_at hl 2 rfl) ?_
              refine kMi (As := [.int (nI (K0))]) (rest := []) S hK hP hS (fun _ h => h) (c_X8_takeUp l D cy ad N g hinj k hk w hg hw K0 hKn) cv_X8_72 hk hg ⟨_, _, rfl⟩ ⟨rfl, rfl⟩ rfl hl.1 rfl (Nat.le_of_ble_eq_true rfl) ⟨Nat.zero_le _, Nat.zero_le _⟩ dX8_change_123 (fun r_123 g_6 H locs q_6 hP hS => ?_)
              obtain ⟨q_123, hk_6, f_6⟩ := q_6
              subst q_123
              have hfr_6 : ∀ j : Nat, j ≠ k → g_6 j = g j := fun j n0 => (f_6 j n0).trans (hfr j )
              exact rMi S hr hlk hP hS ⟨(by first | (rw [chg_yes (by omega) hK0 hw]; done) | (rw [chg_yes (by omega) hK0 hw]; rfl)), (by rw [chg_yes (by omega) hK0 hw]; exact hk_6), hfr_6⟩ dX8_change_126
          · skip
            refine lv_iconst (v := (-1)) hx hb dX8_change_31 (by decide) ?_
            have hno : ¬ isA (wn w) s0 k0 := by rintro ⟨⟨q1, q2⟩, q3, q4⟩; first | exact absurd q1 (Int32.not_le.mpr c_1) | exact absurd q2 (Int32.not_le.mpr c_6) | exact absurd q3 (Int32.not_le.mpr c_10) | exact c_28 (by rw [hbd]; exact q4)
            exact rMi S hr hlk hP hS ⟨(by first | (rw [chg_no hno]; done) | (rw [chg_no hno]; rfl)), (by rw [chg_no hno]; exact hg), (fun j n0 => hfr j )⟩ dX8_change_32
        refine lv_icmp_ne (tgt := 24) hx hb dX8_change_16 (by decide) (fun c_16 => ?_) (fun c_16 => ?_)
        · skip
          refine lv_aload_n hx hb dX8_change_24 rfl (lv_at hl 0 rfl) ?_
          refine mg S hK hP hk hg fd_X8_15 rfl dX8_change_25 ?_
          exact J28 (wn w) (if_neg (show ¬ s0 = 3 from c_16)).symm _ (lv_sub hl [0, 1, 2] rfl)
        · skip
          refine lv_bipush (v := nI (8)) hx hb dX8_change_19 (by decide) ?_
          refine lv_goto (tgt := 28) hx hb dX8_change_21 (by decide) ?_
          exact J28 8 (if_pos (show s0 = 3 from c_16)).symm _ (lv_sub hl [0, 1, 2] rfl)


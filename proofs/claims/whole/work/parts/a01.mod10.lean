set_option maxHeartbeats 4000000 in
set_option maxRecDepth 100000 in
theorem c_X10_count (l : Launch) (D : va_G) (cy : Nat → ClassId) (ad : Nat → Nat) (N : Nat) (g : Nat → va_E) (hN : 145 ≤ N) (n : Nat) (fa : Nat) (he : Nat) (ov : Nat) (un : Nat) (la : Int32) (bo : Int32) (tp : Nat) (ft : Int32) (wr0 : Nat) (wa : Nat) (at0 : Nat) (sp : Nat) (tk : Nat) (vl : Int32) (fi : Nat) (nm : Nat) (dp : Nat) (wy : Int32) (st : Int32) (aP : Nat) (aF : Nat) (aH : Nat) (aO : Nat) (ps : Nat) (mn : Nat) (go : Int32) (vi : Nat) (hM : g 114 = mob ad (nI (n)) (nI (fa)) (nI (he)) (lN ov) (nI (un)) la bo (nI (tp)) ft (nI (wr0)) (nI (wa)) (nI (at0)) (nI (sp)) (nI (tk)) vl (nI (fi)) (nI (nm)) (nI (dp)) wy st (nI (aP)) (nI (aF)) (nI (aH)) (lN aO) (nI (ps)) (nI (mn)) go (nI (vi))) (LN : Nat → Int32) (hLN : g 142 = .inl (cy 1, 4, .inl LN)) (LE : Nat → Nat) (hLE : g 143 = .inl (cy 1, 4, .inl (fun x9 => nI (LE x9)))) (CE : Nat → Int32) (hCE : g 144 = .inl (cy 1, 240, .inl CE)) (Sh : Nat → Int32 × Nat) (SK : Nat → Nat → Int32) (hSH : SHR LN LE CE Sh SK) (what : Int32) : Met l yX10_count (WS yX10_count cX10_count 2 (some .int)) (rmF 0 0) (PP [.ref (ad 114), .int what] D cy ad N g) (vp_Si (fun r => r = cnA fi ps vi tp (Sh 0) what)) 0 0 (fun _ => False) := by
  refine mentry (by decide) (Nat.le_of_ble_eq_true rfl) (fun p e s m below meth c ls S hr hlk hnm hP hK hl => ?_)
  have S : CallFix p m c cX10_count 2 s _ wsL_law RX10 := S
  have hx := S.1
  have hb := S.2.1
  have hl : lv_has ls 2 [(0, .ref (ad 114)), (1, .int what)] := hl
  have hq := hSH 0 (by omega)
  refine lv_iload_n hx hb dX10_count_0 rfl (lv_at hl 1 rfl) ?_
  refine lv_if_ne (tgt := 11) hx hb dX10_count_1 (by decide) (fun c_1 => ?_) (fun c_1 => ?_)
  · skip
    refine lv_iload_n hx hb dX10_count_11 rfl (lv_at hl 1 rfl) ?_
    refine lv_iconst (v := nI (1)) hx hb dX10_count_12 (by decide) ?_
    refine lv_icmp_ne (tgt := 23) hx hb dX10_count_13 (by decide) (fun c_13 => ?_) (fun c_13 => ?_)
    · skip
      refine lv_iload_n hx hb dX10_count_23 rfl (lv_at hl 1 rfl) ?_
      refine lv_iconst (v := nI (2)) hx hb dX10_count_24 (by decide) ?_
      refine lv_icmp_ne (tgt := 35) hx hb dX10_count_25 (by decide) (fun c_25 => ?_) (fun c_25 => ?_)
      · skip
        refine lv_iload_n hx hb dX10_count_35 rfl (lv_at hl 1 rfl) ?_
        refine lv_iconst (v := nI (3)) hx hb dX10_count_36 (by decide) ?_
        refine lv_icmp_ne (tgt := 47) hx hb dX10_count_37 (by decide) (fun c_37 => ?_) (fun c_37 => ?_)
        · skip
          refine lv_iload_n hx hb dX10_count_47 rfl (lv_at hl 1 rfl) ?_
          refine lv_iconst (v := nI (4)) hx hb dX10_count_48 (by decide) ?_
          refine lv_icmp_ne (tgt := 77) hx hb dX10_count_49 (by decide) (fun c_49 => ?_) (fun c_49 => ?_)
          · skip
            refine lv_iconst (v := (-1)) hx hb dX10_count_77 (by decide) ?_
            exact rSi S hr hlk (by unfold cnA; rw [if_neg (show ¬ what = nI 0 from c_1), if_neg c_13, if_neg c_25, if_neg c_37, if_neg c_49]) dX10_count_78
          · skip
            refine lv_aload_n hx hb dX10_count_52 rfl (lv_at hl 0 rfl) ?_
            refine mg S hK hP (by omega) hM fd_X10_102 rfl dX10_count_53 ?_
            refine lv_iconst (v := nI (0)) hx hb dX10_count_56 (by decide) ?_
            refine mial S hK hP (by omega) hLN (vp_in_nI (by omega) (by omega)) dX10_count_57 ?_
            refine tpi (congrArg LN (nI_clamp (by omega))) ?_
            refine tpi (hq.1) ?_
            refine lv_bipush (v := (-4)) hx hb dX10_count_58 (by decide) ?_
            refine lv_icmp_ne (tgt := 68) hx hb dX10_count_60 (by decide) (fun c_60 => ?_) (fun c_60 => ?_)
            · skip
              refine lv_aload_n hx hb dX10_count_68 rfl (lv_at hl 0 rfl) ?_
              refine mg S hK hP (by omega) hM fd_X10_105 rfl dX10_count_69 ?_
              refine lv_iconst (v := nI (0)) hx hb dX10_count_72 (by decide) ?_
              refine mial S hK hP (by omega) hLE (vp_in_nI (by omega) (by omega)) dX10_count_73 ?_
              refine tpi (congrArg ((fun x9 => nI (LE x9))) (nI_clamp (by omega))) ?_
              refine tpi (congrArg nI hq.2.1) ?_
              refine lv_goto (tgt := 78) hx hb dX10_count_74 (by decide) ?_
              exact rSi S hr hlk (by unfold cnA; rw [if_neg (show ¬ what = nI 0 from c_1), if_neg c_13, if_neg c_25, if_neg c_37, if_pos c_49, if_neg (fun q => c_60 (lo_1 hq.2.2.1 |>.mpr q))]) dX10_count_78
            · skip
              refine lv_bipush (v := (-4)) hx hb dX10_count_63 (by decide) ?_
              refine lv_goto (tgt := 78) hx hb dX10_count_65 (by decide) ?_
              exact rSi S hr hlk (by unfold cnA; rw [if_neg (show ¬ what = nI 0 from c_1), if_neg c_13, if_neg c_25, if_neg c_37, if_pos c_49, if_pos (lo_1 hq.2.2.1 |>.mp c_60)]) dX10_count_78
        · skip
          refine lv_aload_n hx hb dX10_count_40 rfl (lv_at hl 0 rfl) ?_
          refine mg S hK hP (by omega) hM fd_X10_222 rfl dX10_count_41 ?_
          refine lv_goto (tgt := 78) hx hb dX10_count_44 (by decide) ?_
          exact rSi S hr hlk (by unfold cnA; rw [if_neg (show ¬ what = nI 0 from c_1), if_neg c_13, if_neg c_25, if_pos c_37]) dX10_count_78
      · skip
        refine lv_aload_n hx hb dX10_count_28 rfl (lv_at hl 0 rfl) ?_
        refine mg S hK hP (by omega) hM fd_X10_360 rfl dX10_count_29 ?_
        refine lv_goto (tgt := 78) hx hb dX10_count_32 (by decide) ?_
        exact rSi S hr hlk (by unfold cnA; rw [if_neg (show ¬ what = nI 0 from c_1), if_neg c_13, if_pos c_25]) dX10_count_78
    · skip
      refine lv_aload_n hx hb dX10_count_16 rfl (lv_at hl 0 rfl) ?_
      refine mg S hK hP (by omega) hM fd_X10_126 rfl dX10_count_17 ?_
      refine lv_goto (tgt := 78) hx hb dX10_count_20 (by decide) ?_
      exact rSi S hr hlk (by unfold cnA; rw [if_neg (show ¬ what = nI 0 from c_1), if_pos c_13]) dX10_count_78
  · skip
    refine lv_aload_n hx hb dX10_count_4 rfl (lv_at hl 0 rfl) ?_
    refine mg S hK hP (by omega) hM fd_X10_262 rfl dX10_count_5 ?_
    refine lv_goto (tgt := 78) hx hb dX10_count_8 (by decide) ?_
    exact rSi S hr hlk (by unfold cnA; rw [if_pos (show what = nI 0 from c_1)]) dX10_count_78
set_option maxHeartbeats 4000000 in
set_option maxRecDepth 100000 in
theorem c_X10_feed (l : Launch) (D : va_G) (cy : Nat → ClassId) (ad : Nat → Nat) (N : Nat) (g : Nat → va_E) (hinj : ∀ i j : Nat, i < N → j < N → ad i = ad j → i = j) (hN : 145 ≤ N) (n : Nat) (fa : Nat) (he : Nat) (ov : Nat) (un : Nat) (la : Int32) (bo : Int32) (tp : Nat) (ft : Int32) (wr0 : Nat) (wa : Nat) (at0 : Nat) (sp : Nat) (tk : Nat) (vl : Int32) (fi : Nat) (nm : Nat) (dp : Nat) (wy : Int32) (st : Int32) (aP : Nat) (aF : Nat) (aH : Nat) (aO : Nat) (ps : Nat) (mn : Nat) (go : Int32) (vi : Nat) (hM : g 114 = mob ad (nI (n)) (nI (fa)) (nI (he)) (lN ov) (nI (un)) la bo (nI (tp)) ft (nI (wr0)) (nI (wa)) (nI (at0)) (nI (sp)) (nI (tk)) vl (nI (fi)) (nI (nm)) (nI (dp)) wy st (nI (aP)) (nI (aF)) (nI (aH)) (lN aO) (nI (ps)) (nI (mn)) go (nI (vi))) (TP : Nat → Nat) (hTP : g 121 = .inl (cy 1, 160, .inl (fun x9 => nI (TP x9)))) (T : Nat → Nat) (htp : tp ≤ 160) (hTT : ∀ i, i < tp → TP i = T i) (v0 : Nat) (hv0 : v0 < 2 ^ 64) : Met l yX10_feed (WS yX10_feed cX10_feed 4 (some .int)) (rmF 0 0) (PP [.ref (ad 114), .long (lN v0)] D cy ad N g) (QI (fun r g1 => ∃ (TP2 : Nat → Nat), (r = if tp + 8 ≤ 160 then nI (tp + 8) else -3) ∧ (∀ i, i < (if tp + 8 ≤ 160 then tp + 8 else tp) → TP2 i = (if tp + 8 ≤ 160 then feT T tp v0 8 else T) i) ∧ g1 114 = mob ad (nI (n)) (nI (fa)) (nI (he)) (lN ov) (nI (un)) la bo (nI (if tp + 8 ≤ 160 then tp + 8 else tp)) ft (nI (wr0)) (nI (wa)) (nI (at0)) (nI (sp)) (nI (tk)) vl (nI (fi)) (nI (nm)) (nI (dp)) wy st (nI (aP)) (nI (aF)) (nI (aH)) (lN aO) (nI (ps)) (nI (mn)) go (nI (vi)) ∧ g1 121 = .inl (cy 1, 160, .inl (fun x9 => nI (TP2 x9))) ∧ (∀ j, j ≠ 114 → j ≠ 121 → g1 j = g j)) D ad N) 0 0 (AA ad N) := by
  refine mentry (by decide) (Nat.le_of_ble_eq_true rfl) (fun p e s m below meth c ls S hr hlk hnm hP hK hl => ?_)
  have S : CallFix p m c cX10_feed 4 s _ wsL_law RX10 := S
  have hx := S.1
  have hb := S.2.1
  have hl : lv_has ls 4 [(0, .ref (ad 114)), (1, .long (lN v0))] := hl
  have hI : MD (AA ad N) ad N := MD.in hinj
  have hS : va_S (AA ad N) s.heap s.heap [] := va_S.rf
  have hfr : ∀ j : Nat, g j = g j := fun _ => rfl
  refine lv_aload_n hx hb dX10_feed_0 rfl (lv_at hl 0 rfl) ?_
  refine mg S hK hP (by omega) hM fd_X10_222 rfl dX10_feed_1 ?_
  refine lv_bipush (v := nI (8)) hx hb dX10_feed_4 (by decide) ?_
  refine lv_iadd hx hb dX10_feed_6 ?_
  refine tpi (nI_add tp 8) ?_
  refine lv_sipush (v := nI (160)) hx hb dX10_feed_7 (by decide) ?_
  refine lv_icmp_le (tgt := 16) hx hb dX10_feed_10 (by decide) (fun c_10 => ?_) (fun c_10 => ?_)
  · skip
    have c_10 := (nI_leI (by omega) (by omega)).mp c_10
    refine lv_bipush (v := nI (56)) hx hb dX10_feed_16 (by decide) ?_
    refine tpi (show nI 56 = nI 56 - nI (8 * 0) by decide) ?_
    refine lv_istore_n (lv' := [(3, .int (nI 56 - nI (8 * 0))), (0, .ref (ad 114)), (1, .long (lN v0))]) hx hb dX10_feed_18 rfl hl (by decide) rfl (fun ls hl => ?_)
    have L19 : ∀ (fu : Nat) (j : Nat), (j ≤ 8) → (8 - j) < fu → ∀ (g_1 : Nat → va_E) (H : Heap) (locs : List Loc), g_1 114 = mob ad (nI (n)) (nI (fa)) (nI (he)) (lN ov) (nI (un)) la bo (nI (tp + j)) ft (nI (wr0)) (nI (wa)) (nI (at0)) (nI (sp)) (nI (tk)) vl (nI (fi)) (nI (nm)) (nI (dp)) wy st (nI (aP)) (nI (aF)) (nI (aH)) (lN aO) (nI (ps)) (nI (mn)) go (nI (vi)) → g_1 121 = .inl (cy 1, 160, .inl (fun x9 => nI ((feT TP tp v0 j) x9))) → (∀ j : Nat, j ≠ 114 → j ≠ 121 → g_1 j = g j) → MM D ad N g_1 H → va_S (AA ad N) s.heap H locs → ∀ (ls : Array Slot), lv_has ls 4 [(3, .int (nI 56 - nI (8 * j))), (0, .ref (ad 114)), (1, .long (lN v0))] → W p l e (rmF 0 0) s m [.ref (ad 114), .long (lN v0)].toArray below meth c H locs 0 0 (MQ below (QI (fun r g1 => ∃ (TP2 : Nat → Nat), (r = if tp + 8 ≤ 160 then nI (tp + 8) else -3) ∧ (∀ i, i < (if tp + 8 ≤ 160 then tp + 8 else tp) → TP2 i = (if tp + 8 ≤ 160 then feT T tp v0 8 else T) i) ∧ g1 114 = mob ad (nI (n)) (nI (fa)) (nI (he)) (lN ov) (nI (un)) la bo (nI (if tp + 8 ≤ 160 then tp + 8 else tp)) ft (nI (wr0)) (nI (wa)) (nI (at0)) (nI (sp)) (nI (tk)) vl (nI (fi)) (nI (nm)) (nI (dp)) wy st (nI (aP)) (nI (aF)) (nI (aH)) (lN aO) (nI (ps)) (nI (mn)) go (nI (vi)) ∧ g1 121 = .inl (cy 1, 160, .inl (fun x9 => nI (TP2 x9))) ∧ (∀ j, j ≠ 114 → j ≠ 121 → g1 j = g j)) D ad N) [.ref (ad 114), .long (lN v0)].toArray s 0 0 (AA ad N)) (F0 m 19 ls []) := by
      intro fu
      induction fu with
      | zero => intro j hj hms g_1 H locs h114_1 h121_1 hfr_1 hP hS ls hl; exact absurd hms (Nat.not_lt_zero _)
      | succ fu ih19 =>
        intro j hj hms g_1 H locs h114_1 h121_1 hfr_1 hP hS ls hl
        refine lv_iload_n hx hb dX10_feed_19 rfl (lv_at hl 0 rfl) ?_
        refine lv_if_lt (tgt := 56) hx hb dX10_feed_20 (by decide) (fun c_20 => ?_) (fun c_20 => ?_)
        · skip
          have hj8 : j = 8 := (k56 j hj).mp (by assumption)
          refine lv_aload_n hx hb dX10_feed_56 rfl (lv_at hl 1 rfl) ?_
          refine mg S hK hP (by omega) h114_1 fd_X10_222 rfl dX10_feed_57 ?_
          exact rMi S hr hlk hP hS ⟨_, (by rw [if_pos (by omega), hj8]), (by rw [if_pos (by omega), if_pos (by omega)]; rw [hj8]; exact feT_c hTT 8), (by rw [if_pos (show tp + 8 ≤ 160 by omega)]; have q := h114_1; rw [hj8] at q; exact q), h121_1, hfr_1⟩ dX10_feed_60
        · skip
          have hj8 : j < 8 := by rcases Nat.lt_or_ge j 8 with q | q; exact q; exact absurd ((k56 j hj).mpr (by omega)) (by assumption)
          refine lv_aload_n hx hb dX10_feed_23 rfl (lv_at hl 1 rfl) ?_
          refine mg S hK hP (by omega) h114_1 fd_X10_39 rfl dX10_feed_24 ?_
          refine lv_aload_n hx hb dX10_feed_27 rfl (lv_at hl 1 rfl) ?_
          refine mg S hK hP (by omega) h114_1 fd_X10_222 rfl dX10_feed_28 ?_
          refine lv_lload_n hx hb dX10_feed_31 rfl (lv_at hl 2 rfl) ?_
          refine lv_iload_n hx hb dX10_feed_32 rfl (lv_at hl 0 rfl) ?_
          refine tpi (pk_sub (by omega)) ?_
          refine lv_lshr hx hb dX10_feed_33 rfl ?_
          refine lv_l2i hx hb dX10_feed_34 rfl ?_
          refine lv_sipush (v := nI (255)) hx hb dX10_feed_35 (by decide) ?_
          refine lv_iand hx hb dX10_feed_38 ?_
          refine tpi (sar8 (by omega)) ?_
          have hm9 : v0 / 2 ^ (56 - 8 * j) % 256 < 256 := Nat.mod_lt _ (by decide)
          refine mias S hK hP hI hS (by omega) h121_1 (vp_in_nI (by omega) (by omega)) dX10_feed_39 (fun g_2 H locs eg_2 hP hS => ?_)
          have h121_2 : g_2 121 = .inl (cy 1, 160, .inl (fun x9 => nI ((va_up (feT TP tp v0 j) (tp + j) (v0 / 2 ^ (56 - 8 * j) % 256)) x9))) := by rw [eg_2, va_up_self]; exact (arrN_up (by omega))
          have h114_2 : g_2 114 = mob ad (nI (n)) (nI (fa)) (nI (he)) (lN ov) (nI (un)) la bo (nI (tp + j)) ft (nI (wr0)) (nI (wa)) (nI (at0)) (nI (sp)) (nI (tk)) vl (nI (fi)) (nI (nm)) (nI (dp)) wy st (nI (aP)) (nI (aF)) (nI (aH)) (lN aO) (nI (ps)) (nI (mn)) go (nI (vi)) := ((congrFun eg_2 _).trans (va_up_ne _ _ (by omega))).trans h114_1
          have hfr_2 : ∀ j : Nat, j ≠ 114 → j ≠ 121 → g_2 j = g j := fun j n0 n1 => ((congrFun eg_2 _).trans (va_up_ne _ _ n1)).trans (hfr_1 j n0 n1)
          refine lv_aload_n hx hb dX10_feed_40 rfl (lv_at hl 1 rfl) ?_
          refine lv_dup hx hb dX10_feed_41 rfl ?_
          refine mg S hK hP (by omega) h114_2 fd_X10_222 rfl dX10_feed_42 ?_
          refine lv_iconst (v := nI (1)) hx hb dX10_feed_45 (by decide) ?_
          refine lv_iadd hx hb dX10_feed_46 ?_
          refine tpi (nI_add (tp + j) 1) ?_
          refine mp S hK hP hI hS (by omega) h114_2 fd_X10_222 rfl rfl (Nat.le_of_ble_eq_true rfl) dX10_feed_47 (fun g_3 H locs eg_3 hP hS => ?_)
          have h114_3 : g_3 114 = mob ad (nI (n)) (nI (fa)) (nI (he)) (lN ov) (nI (un)) la bo (nI ((tp + j) + 1)) ft (nI (wr0)) (nI (wa)) (nI (at0)) (nI (sp)) (nI (tk)) vl (nI (fi)) (nI (nm)) (nI (dp)) wy st (nI (aP)) (nI (aF)) (nI (aH)) (lN aO) (nI (ps)) (nI (mn)) go (nI (vi)) := by rw [eg_3, va_up_self]; exact rfl
          have h121_3 : g_3 121 = .inl (cy 1, 160, .inl (fun x9 => nI ((va_up (feT TP tp v0 j) (tp + j) (v0 / 2 ^ (56 - 8 * j) % 256)) x9))) := ((congrFun eg_3 _).trans (va_up_ne _ _ (by omega))).trans h121_2
          have hfr_3 : ∀ j : Nat, j ≠ 114 → j ≠ 121 → g_3 j = g j := fun j n0 n1 => ((congrFun eg_3 _).trans (va_up_ne _ _ n0)).trans (hfr_2 j n0 n1)
          refine lv_iinc (v := nI 56 - nI (8 * (j + 1))) (lv' := [(3, .int (nI 56 - nI (8 * (j + 1)))), (0, .ref (ad 114)), (1, .long (lN v0))]) hx hb dX10_feed_50 hl (k := 0) rfl (k56s j hj8) (by decide) rfl (fun ls hl => ?_)
          refine lv_goto (tgt := 19) hx hb dX10_feed_53 (by decide) ?_
          exact ih19 (j + 1) (by omega) (by omega) g_3 _ _ h114_3 h121_3 hfr_3 hP hS _ (lv_sub hl [0, 1, 2] rfl)
    exact L19 ((8 - 0) + 1) 0 (by omega) (Nat.lt_succ_self _) g _ _ hM hTP (fun j n0 n1 => hfr j ) hP hS _ (lv_sub hl [0, 1, 2] rfl)
  · skip
    have c_10 := (not_congr (nI_leI (by omega) (by omega))).mp c_10
    refine lv_bipush (v := (-3)) hx hb dX10_feed_13 (by decide) ?_
    exact rMi S hr hlk hP hS ⟨_, (if_neg (by omega)).symm, (by rw [if_neg (by omega), if_neg (by omega)]; exact hTT), (by rw [if_neg (show ¬ tp + 8 ≤ 160 by omega)]; exact hM), hTP, (fun j n0 n1 => hfr j )⟩ dX10_feed_15
set_option maxHeartbeats 4000000 in
set_option maxRecDepth 100000 in
theorem c_X10_end (l : Launch) (D : va_G) (cy : Nat → ClassId) (ad : Nat → Nat) (N : Nat) (g : Nat → va_E) (hinj : ∀ i j : Nat, i < N → j < N → ad i = ad j → i = j) (hN : 145 ≤ N) (n : Nat) (fa : Nat) (he : Nat) (ov : Nat) (un : Nat) (la : Int32) (bo : Int32) (tp : Nat) (ft : Int32) (wr0 : Nat) (wa : Nat) (at0 : Nat) (sp : Nat) (tk : Nat) (vl : Int32) (fi : Nat) (nm : Nat) (dp : Nat) (wy : Int32) (st : Int32) (aP : Nat) (aF : Nat) (aH : Nat) (aO : Nat) (ps : Nat) (mn : Nat) (go : Int32) (vi : Nat) (hM : g 114 = mob ad (nI (n)) (nI (fa)) (nI (he)) (lN ov) (nI (un)) la bo (nI (tp)) ft (nI (wr0)) (nI (wa)) (nI (at0)) (nI (sp)) (nI (tk)) vl (nI (fi)) (nI (nm)) (nI (dp)) wy st (nI (aP)) (nI (aF)) (nI (aH)) (lN aO) (nI (ps)) (nI (mn)) go (nI (vi))) (htp : tp ≤ 160) (x0 : Int32) : Met l yX10_end (WS yX10_end cX10_end 3 (some .int)) (rmF 1 25) (PP [.ref (ad 114), .int x0] D cy ad N g) (QI (fun r g1 => (r = if isI x0 (tp + 1) then nI tp else -1) ∧ g1 114 = mob ad (nI (n)) (nI (fa)) (nI (he)) (lN ov) (nI (un)) la bo (nI (if isI x0 (tp + 1) then x0.toNatClampNeg else tp)) ft (nI (wr0)) (nI (wa)) (nI (at0)) (nI (sp)) (nI (tk)) vl (nI (fi)) (nI (nm)) (nI (dp)) wy st (nI (aP)) (nI (aF)) (nI (aH)) (lN aO) (nI (ps)) (nI (mn)) go (nI (vi)) ∧ (∀ j, j ≠ 114 → g1 j = g j)) D ad N) 0 0 (AA ad N) := by
  refine mentry (by decide) (Nat.le_of_ble_eq_true rfl) (fun p e s m below meth c ls S hr hlk hnm hP hK hl => ?_)
  have S : CallFix p m c cX10_end 3 s _ wsL_law RX10 := S
  have hx := S.1
  have hb := S.2.1
  have hl : lv_has ls 3 [(0, .ref (ad 114)), (1, .int x0)] := hl
  have hI : MD (AA ad N) ad N := MD.in hinj
  have hS : va_S (AA ad N) s.heap s.heap [] := va_S.rf
  have hfr : ∀ j : Nat, g j = g j := fun _ => rfl
  refine lv_iload_n hx hb dX10_end_0 rfl (lv_at hl 1 rfl) ?_
  refine lv_i2l hx hb dX10_end_1 rfl ?_
  refine lv_lconst (v := lN 0) hx hb dX10_end_2 (by decide) ?_
  refine lv_aload_n hx hb dX10_end_3 rfl (lv_at hl 0 rfl) ?_
  refine mg S hK hP (by omega) hM fd_X10_222 rfl dX10_end_4 ?_
  refine lv_i2l hx hb dX10_end_7 rfl ?_
  refine tpl (nI_l (by omega)) ?_
  refine kSi (As := [.long x0.toInt64, .long (lN 0), .long (lN tp)]) (rest := []) S hK hP (c_X10_in l D cy ad N g x0.toInt64 (lN 0) (lN tp)) cs_X10_115 ⟨rfl, rfl⟩ rfl hl.1 rfl (Nat.le_of_ble_eq_true rfl) ⟨Nat.zero_le _, Nat.zero_le _⟩ dX10_end_8 (fun r_8 q_8 => ?_)
  subst q_8
  refine tpi (ifC (in_0 (n := tp + 1) (by omega) (by omega))) ?_
  refine lv_if_ne (tgt := 16) hx hb dX10_end_11 (by decide) (fun c_11 => ?_) (fun c_11 => ?_)
  · skip
    have c_11 := bz_ne.mp c_11
    obtain ⟨k0, hk0b, rfl⟩ := isI_nat (by omega) c_11
    have hJ := c_11
    have hk031 : k0 < 2 ^ 31 := by omega
    refine lv_aload_n hx hb dX10_end_16 rfl (lv_at hl 0 rfl) ?_
    refine mg S hK hP (by omega) hM fd_X10_222 rfl dX10_end_17 ?_
    refine lv_istore_n (lv' := [(2, .int (nI (tp))), (0, .ref (ad 114)), (1, .int (nI (k0)))]) hx hb dX10_end_20 rfl hl (by decide) rfl (fun ls hl => ?_)
    refine lv_aload_n hx hb dX10_end_21 rfl (lv_at hl 1 rfl) ?_
    refine lv_iload_n hx hb dX10_end_22 rfl (lv_at hl 2 rfl) ?_
    refine mp S hK hP hI hS (by omega) hM fd_X10_222 rfl rfl (Nat.le_of_ble_eq_true rfl) dX10_end_23 (fun g_1 H locs eg_1 hP hS => ?_)
    have h114_1 : g_1 114 = mob ad (nI (n)) (nI (fa)) (nI (he)) (lN ov) (nI (un)) la bo (nI (k0)) ft (nI (wr0)) (nI (wa)) (nI (at0)) (nI (sp)) (nI (tk)) vl (nI (fi)) (nI (nm)) (nI (dp)) wy st (nI (aP)) (nI (aF)) (nI (aH)) (lN aO) (nI (ps)) (nI (mn)) go (nI (vi)) := by rw [eg_1, va_up_self]; exact rfl
    have hfr_1 : ∀ j : Nat, j ≠ 114 → g_1 j = g j := fun j n0 => ((congrFun eg_1 _).trans (va_up_ne _ _ n0)).trans (hfr j )
    refine lv_iload_n hx hb dX10_end_26 rfl (lv_at hl 0 rfl) ?_
    exact rMi S hr hlk hP hS ⟨(if_pos hJ).symm, (by simp only [if_pos hJ, nI_clamp hk031]; exact h114_1), hfr_1⟩ dX10_end_27
  · skip
    have c_11 := bz_eq.mp c_11
    have hJ : ¬ isI x0 (tp + 1) := c_11
    refine lv_iconst (v := (-1)) hx hb dX10_end_14 (by decide) ?_
    exact rMi S hr hlk hP hS ⟨(if_neg hJ).symm, (by simp only [if_neg hJ]; exact hM), (fun j n0 => hfr j )⟩ dX10_end_15
set_option maxHeartbeats 4000000 in
set_option maxRecDepth 100000 in
theorem c_X10_sheet (l : Launch) (D : va_G) (cy : Nat → ClassId) (ad : Nat → Nat) (N : Nat) (g : Nat → va_E) (hinj : ∀ i j : Nat, i < N → j < N → ad i = ad j → i = j) (hN : 145 ≤ N) (n : Nat) (fa : Nat) (he : Nat) (ov : Nat) (un : Nat) (la : Int32) (bo : Int32) (tp : Nat) (ft : Int32) (wr0 : Nat) (wa : Nat) (at0 : Nat) (sp : Nat) (tk : Nat) (vl : Int32) (fi : Nat) (nm : Nat) (dp : Nat) (wy : Int32) (st : Int32) (aP : Nat) (aF : Nat) (aH : Nat) (aO : Nat) (ps : Nat) (mn : Nat) (go : Int32) (vi : Nat) (hM : g 114 = mob ad (nI (n)) (nI (fa)) (nI (he)) (lN ov) (nI (un)) la bo (nI (tp)) ft (nI (wr0)) (nI (wa)) (nI (at0)) (nI (sp)) (nI (tk)) vl (nI (fi)) (nI (nm)) (nI (dp)) wy st (nI (aP)) (nI (aF)) (nI (aH)) (lN aO) (nI (ps)) (nI (mn)) go (nI (vi))) (LN : Nat → Int32) (hLN : g 142 = .inl (cy 1, 4, .inl LN)) (LE : Nat → Nat) (hLE : g 143 = .inl (cy 1, 4, .inl (fun x9 => nI (LE x9)))) (CE : Nat → Int32) (hCE : g 144 = .inl (cy 1, 240, .inl CE)) (Sh : Nat → Int32 × Nat) (SK : Nat → Nat → Int32) (hSH : SHR LN LE CE Sh SK) (x0 : Int32) (y0 : Int32) (z0 : Int32) : Met l yX10_sheet (WS yX10_sheet cX10_sheet 5 (some .int)) (rmF 1 25) (PP [.ref (ad 114), .int x0, .int y0, .int z0] D cy ad N g) (QI (fun r g1 => ∃ (LN2 : Nat → Int32), ∃ (LE2 : Nat → Nat), ∃ (CE2 : Nat → Int32), (r = if isI x0 4 ∧ isI y0 3 ∧ ¬ nI 60 < z0 then (if z0 < 0 then -14 else 1) else -1) ∧ (SHR LN2 LE2 CE2 (if (isI x0 4 ∧ isI y0 3 ∧ isI z0 61) then va_up Sh x0.toNatClampNeg (y0, z0.toNatClampNeg) else Sh) (if (isI x0 4 ∧ isI y0 3 ∧ isI z0 61) then va_up SK x0.toNatClampNeg (flC 60 0 (SK x0.toNatClampNeg)) else SK)) ∧ g1 114 = mob ad (nI (n)) (nI (fa)) (nI (he)) (lN ov) (nI (un)) la bo (nI (tp)) ft (nI (wr0)) (nI (wa)) (nI (at0)) (nI (sp)) (nI (tk)) vl (nI (fi)) (nI (nm)) (nI (dp)) wy st (nI (aP)) (nI (aF)) (nI (aH)) (lN aO) (nI (ps)) (nI (mn)) go (nI (vi)) ∧ g1 142 = .inl (cy 1, 4, .inl LN2) ∧ g1 143 = .inl (cy 1, 4, .inl (fun x9 => nI (LE2 x9))) ∧ g1 144 = .inl (cy 1, 240, .inl CE2) ∧ (∀ j, j ≠ 114 → j ≠ 142 → j ≠ 143 → j ≠ 144 → g1 j = g j)) D ad N) 0 0 (AA ad N) := by
  refine mentry (by decide) (Nat.le_of_ble_eq_true rfl) (fun p e s m below meth c ls S hr hlk hnm hP hK hl => ?_)
  have S : CallFix p m c cX10_sheet 5 s _ wsL_law RX10 := S
  have hx := S.1
  have hb := S.2.1
  have hl : lv_has ls 5 [(0, .ref (ad 114)), (1, .int x0), (2, .int y0), (3, .int z0)] := hl
  have hI : MD (AA ad N) ad N := MD.in hinj
  have hS : va_S (AA ad N) s.heap s.heap [] := va_S.rf
  have hfr : ∀ j : Nat, g j = g j := fun _ => rfl
  refine lv_iload_n hx hb dX10_sheet_0 rfl (lv_at hl 1 rfl) ?_
  refine lv_i2l hx hb dX10_sheet_1 rfl ?_
  refine lv_lconst (v := lN 0) hx hb dX10_sheet_2 (by decide) ?_
  refine lv_ldc2 hx hb S.2.2.2.1 (S.2.2.2.2 _ m_X10_373) dX10_sheet_3 ?_
  refine tpl (show (3 : Int64) = lN 3 from rfl) ?_
  refine kSi (As := [.long x0.toInt64, .long (lN 0), .long (lN 3)]) (rest := []) S hK hP (c_X10_in l D cy ad N g x0.toInt64 (lN 0) (lN 3)) cs_X10_115 ⟨rfl, rfl⟩ rfl hl.1 rfl (Nat.le_of_ble_eq_true rfl) ⟨Nat.zero_le _, Nat.zero_le _⟩ dX10_sheet_6 (fun r_6 q_6 => ?_)
  subst q_6
  refine tpi (ifC (in_0 (n := 4) (by omega) (by omega))) ?_
  refine lv_if_eq (tgt := 30) hx hb dX10_sheet_9 (by decide) (fun c_9 => ?_) (fun c_9 => ?_)
  · skip
    have c_9 := bz_eq.mp c_9
    have hN9 : ¬ (isI x0 4 ∧ isI y0 3 ∧ ¬ nI 60 < z0) := fun q => c_9 q.1
    have hC : ¬ (isI x0 4 ∧ isI y0 3 ∧ isI z0 61) := fun q => c_9 q.1
    refine lv_iconst (v := (-1)) hx hb dX10_sheet_30 (by decide) ?_
    exact rMi S hr hlk hP hS ⟨_, _, _, (if_neg hN9).symm, (by rw [if_neg hC, if_neg hC]; exact hSH), hM, hLN, hLE, hCE, (fun j n0 n1 n2 n3 => hfr j )⟩ dX10_sheet_31
  · skip
    have c_9 := bz_ne.mp c_9
    obtain ⟨k0, hk0b, rfl⟩ := isI_nat (by omega) c_9
    have hJ := c_9
    have hk031 : k0 < 2 ^ 31 := by omega
    refine lv_iload_n hx hb dX10_sheet_12 rfl (lv_at hl 2 rfl) ?_
    refine lv_i2l hx hb dX10_sheet_13 rfl ?_
    refine lv_lconst (v := lN 0) hx hb dX10_sheet_14 (by decide) ?_
    refine lv_ldc2 hx hb S.2.2.2.1 (S.2.2.2.2 _ m_X10_204) dX10_sheet_15 ?_
    refine tpl (show (2 : Int64) = lN 2 from rfl) ?_
    refine kSi (As := [.long y0.toInt64, .long (lN 0), .long (lN 2)]) (rest := []) S hK hP (c_X10_in l D cy ad N g y0.toInt64 (lN 0) (lN 2)) cs_X10_115 ⟨rfl, rfl⟩ rfl hl.1 rfl (Nat.le_of_ble_eq_true rfl) ⟨Nat.zero_le _, Nat.zero_le _⟩ dX10_sheet_18 (fun r_18 q_18 => ?_)
    subst q_18
    refine tpi (ifC (in_0 (n := 3) (by omega) (by omega))) ?_
    refine lv_if_eq (tgt := 30) hx hb dX10_sheet_21 (by decide) (fun c_21 => ?_) (fun c_21 => ?_)
    · skip
      have c_21 := bz_eq.mp c_21
      have hN9 : ¬ (isI (nI k0) 4 ∧ isI y0 3 ∧ ¬ nI 60 < z0) := fun q => c_21 q.2.1
      have hC : ¬ (isI (nI k0) 4 ∧ isI y0 3 ∧ isI z0 61) := fun q => c_21 q.2.1
      refine lv_iconst (v := (-1)) hx hb dX10_sheet_30 (by decide) ?_
      exact rMi S hr hlk hP hS ⟨_, _, _, (if_neg hN9).symm, (by rw [if_neg hC, if_neg hC]; exact hSH), hM, hLN, hLE, hCE, (fun j n0 n1 n2 n3 => hfr j )⟩ dX10_sheet_31
    · skip
      have c_21 := bz_ne.mp c_21
      refine lv_iload_n hx hb dX10_sheet_24 rfl (lv_at hl 3 rfl) ?_
      refine lv_bipush (v := nI (60)) hx hb dX10_sheet_25 (by decide) ?_
      refine lv_icmp_le (tgt := 32) hx hb dX10_sheet_27 (by decide) (fun c_27 => ?_) (fun c_27 => ?_)
      · skip
        refine lv_iload_n hx hb dX10_sheet_32 rfl (lv_at hl 3 rfl) ?_
        refine lv_if_ge (tgt := 39) hx hb dX10_sheet_33 (by decide) (fun c_33 => ?_) (fun c_33 => ?_)
        · skip
          obtain ⟨zn, hznb, rfl⟩ := nI_of (x := z0) (Int32.not_lt.mpr (by assumption))
          have hzn : zn ≤ 60 := (nI_leI hznb (by omega)).mp (by assumption)
          have hC : isI (nI k0) 4 ∧ isI y0 3 ∧ isI (nI zn) 61 := ⟨hJ, c_21, (isI_nI (by omega) (by omega)).mpr (by omega)⟩
          have hzn31 : zn < 2 ^ 31 := by omega
          refine lv_aload_n hx hb dX10_sheet_39 rfl (lv_at hl 0 rfl) ?_
          refine mg S hK hP (by omega) hM fd_X10_102 rfl dX10_sheet_40 ?_
          refine lv_iload_n hx hb dX10_sheet_43 rfl (lv_at hl 1 rfl) ?_
          refine lv_iload_n hx hb dX10_sheet_44 rfl (lv_at hl 2 rfl) ?_
          refine mias S hK hP hI hS (by omega) hLN (vp_in_nI (by omega) (by omega)) dX10_sheet_45 (fun g_1 H locs eg_1 hP hS => ?_)
          have h142_1 : g_1 142 = .inl (cy 1, 4, .inl (upd LN k0 y0)) := by rw [eg_1, va_up_self]; exact (arrI_up (by omega))
          have h114_1 : g_1 114 = mob ad (nI (n)) (nI (fa)) (nI (he)) (lN ov) (nI (un)) la bo (nI (tp)) ft (nI (wr0)) (nI (wa)) (nI (at0)) (nI (sp)) (nI (tk)) vl (nI (fi)) (nI (nm)) (nI (dp)) wy st (nI (aP)) (nI (aF)) (nI (aH)) (lN aO) (nI (ps)) (nI (mn)) go (nI (vi)) := ((congrFun eg_1 _).trans (va_up_ne _ _ (by omega))).trans hM
          have h143_1 : g_1 143 = .inl (cy 1, 4, .inl (fun x9 => nI (LE x9))) := ((congrFun eg_1 _).trans (va_up_ne _ _ (by omega))).trans hLE
          have h144_1 : g_1 144 = .inl (cy 1, 240, .inl CE) := ((congrFun eg_1 _).trans (va_up_ne _ _ (by omega))).trans hCE
          have hfr_1 : ∀ j : Nat, j ≠ 142 → g_1 j = g j := fun j n0 => ((congrFun eg_1 _).trans (va_up_ne _ _ n0)).trans (hfr j )
          refine lv_aload_n hx hb dX10_sheet_46 rfl (lv_at hl 0 rfl) ?_
          refine mg S hK hP (by omega) h114_1 fd_X10_105 rfl dX10_sheet_47 ?_
          refine lv_iload_n hx hb dX10_sheet_50 rfl (lv_at hl 1 rfl) ?_
          refine lv_iload_n hx hb dX10_sheet_51 rfl (lv_at hl 3 rfl) ?_
          refine mias S hK hP hI hS (by omega) h143_1 (vp_in_nI (by omega) (by omega)) dX10_sheet_52 (fun g_2 H locs eg_2 hP hS => ?_)
          have h143_2 : g_2 143 = .inl (cy 1, 4, .inl (fun x9 => nI ((va_up LE k0 zn) x9))) := by rw [eg_2, va_up_self]; exact (arrN_up (by omega))
          have h114_2 : g_2 114 = mob ad (nI (n)) (nI (fa)) (nI (he)) (lN ov) (nI (un)) la bo (nI (tp)) ft (nI (wr0)) (nI (wa)) (nI (at0)) (nI (sp)) (nI (tk)) vl (nI (fi)) (nI (nm)) (nI (dp)) wy st (nI (aP)) (nI (aF)) (nI (aH)) (lN aO) (nI (ps)) (nI (mn)) go (nI (vi)) := ((congrFun eg_2 _).trans (va_up_ne _ _ (by omega))).trans h114_1
          have h142_2 : g_2 142 = .inl (cy 1, 4, .inl (upd LN k0 y0)) := ((congrFun eg_2 _).trans (va_up_ne _ _ (by omega))).trans h142_1
          have h144_2 : g_2 144 = .inl (cy 1, 240, .inl CE) := ((congrFun eg_2 _).trans (va_up_ne _ _ (by omega))).trans h144_1
          have hfr_2 : ∀ j : Nat, j ≠ 142 → j ≠ 143 → g_2 j = g j := fun j n0 n1 => ((congrFun eg_2 _).trans (va_up_ne _ _ n1)).trans (hfr_1 j n0)
          refine lv_iconst (v := nI (0)) hx hb dX10_sheet_53 (by decide) ?_
          refine lv_istore (lv' := [(4, .int (nI (0))), (0, .ref (ad 114)), (1, .int (nI (k0))), (2, .int y0), (3, .int (nI (zn)))]) hx hb dX10_sheet_54 hl (by decide) rfl (fun ls hl => ?_)
          have L56 : ∀ (fu : Nat) (i : Nat), (i ≤ 60) → (60 - i) < fu → ∀ (g_3 : Nat → va_E) (H : Heap) (locs : List Loc), g_3 142 = .inl (cy 1, 4, .inl (upd LN k0 y0)) → g_3 143 = .inl (cy 1, 4, .inl (fun x9 => nI ((va_up LE k0 zn) x9))) → g_3 144 = .inl (cy 1, 240, .inl (clC k0 i CE)) → (∀ j : Nat, j ≠ 142 → j ≠ 143 → j ≠ 144 → g_3 j = g j) → MM D ad N g_3 H → va_S (AA ad N) s.heap H locs → ∀ (ls : Array Slot), lv_has ls 5 [(4, .int (nI (i))), (0, .ref (ad 114)), (1, .int (nI (k0))), (2, .int y0), (3, .int (nI (zn)))] → W p l e (rmF 1 25) s m [.ref (ad 114), .int (nI k0), .int y0, .int (nI zn)].toArray below meth c H locs 0 0 (MQ below (QI (fun r g1 => ∃ (LN2 : Nat → Int32), ∃ (LE2 : Nat → Nat), ∃ (CE2 : Nat → Int32), (r = if isI (nI k0) 4 ∧ isI y0 3 ∧ ¬ nI 60 < (nI zn) then (if (nI zn) < 0 then -14 else 1) else -1) ∧ (SHR LN2 LE2 CE2 (if (isI (nI k0) 4 ∧ isI y0 3 ∧ isI (nI zn) 61) then va_up Sh (nI k0).toNatClampNeg (y0, (nI zn).toNatClampNeg) else Sh) (if (isI (nI k0) 4 ∧ isI y0 3 ∧ isI (nI zn) 61) then va_up SK (nI k0).toNatClampNeg (flC 60 0 (SK (nI k0).toNatClampNeg)) else SK)) ∧ g1 114 = mob ad (nI (n)) (nI (fa)) (nI (he)) (lN ov) (nI (un)) la bo (nI (tp)) ft (nI (wr0)) (nI (wa)) (nI (at0)) (nI (sp)) (nI (tk)) vl (nI (fi)) (nI (nm)) (nI (dp)) wy st (nI (aP)) (nI (aF)) (nI (aH)) (lN aO) (nI (ps)) (nI (mn)) go (nI (vi)) ∧ g1 142 = .inl (cy 1, 4, .inl LN2) ∧ g1 143 = .inl (cy 1, 4, .inl (fun x9 => nI (LE2 x9))) ∧ g1 144 = .inl (cy 1, 240, .inl CE2) ∧ (∀ j, j ≠ 114 → j ≠ 142 → j ≠ 143 → j ≠ 144 → g1 j = g j)) D ad N) [.ref (ad 114), .int (nI k0), .int y0, .int (nI zn)].toArray s 0 0 (AA ad N)) (F0 m 56 ls []) := by
            intro fu
            induction fu with
            | zero => intro i hi hms g_3 H locs h142_3 h143_3 h144_3 hfr_3 hP hS ls hl; exact absurd hms (Nat.not_lt_zero _)
            | succ fu ih56 =>
              intro i hi hms g_3 H locs h142_3 h143_3 h144_3 hfr_3 hP hS ls hl
              have h114_3 : g_3 114 = mob ad (nI (n)) (nI (fa)) (nI (he)) (lN ov) (nI (un)) la bo (nI (tp)) ft (nI (wr0)) (nI (wa)) (nI (at0)) (nI (sp)) (nI (tk)) vl (nI (fi)) (nI (nm)) (nI (dp)) wy st (nI (aP)) (nI (aF)) (nI (aH)) (lN aO) (nI (ps)) (nI (mn)) go (nI (vi)) := (hfr_3 114 (by omega) (by omega) (by omega)).trans hM
              refine lv_iload hx hb dX10_sheet_56 (lv_at hl 0 rfl) ?_
              refine lv_bipush (v := nI (60)) hx hb dX10_sheet_58 (by decide) ?_
              refine lv_icmp_ge (tgt := 82) hx hb dX10_sheet_60 (by decide) (fun c_60 => ?_) (fun c_60 => ?_)
              · skip
                have c_60 := (nI_leI (by omega) (by omega)).mp c_60
                refine lv_iconst (v := nI (1)) hx hb dX10_sheet_82 (by decide) ?_
                exact rMi S hr hlk hP hS ⟨_, _, _, (by rw [if_pos ⟨hC.1, hC.2.1, nI_nlt (by omega) (by omega)⟩, if_neg (Int32.not_lt.mpr c_33)]; rfl), (by rw [if_pos hC, if_pos hC, nI_clamp hk031, nI_clamp hzn31, show i = 60 by omega]; exact SHR_new hSH hk0b c_21 hzn), h114_3, h142_3, h143_3, h144_3, (fun j n0 n1 n2 n3 => hfr_3 j (by omega) (by omega) (by omega))⟩ dX10_sheet_83
              · skip
                have c_60 := (not_congr (nI_leI (by omega) (by omega))).mp c_60
                refine lv_aload_n hx hb dX10_sheet_63 rfl (lv_at hl 1 rfl) ?_
                refine mg S hK hP (by omega) h114_3 fd_X10_108 rfl dX10_sheet_64 ?_
                refine lv_bipush (v := nI (60)) hx hb dX10_sheet_67 (by decide) ?_
                refine lv_iload_n hx hb dX10_sheet_69 rfl (lv_at hl 2 rfl) ?_
                refine lv_imul hx hb dX10_sheet_70 ?_
                refine tpi (pk_mul 60 k0) ?_
                refine lv_iload hx hb dX10_sheet_71 (lv_at hl 0 rfl) ?_
                refine lv_iadd hx hb dX10_sheet_73 ?_
                refine tpi (nI_add (60 * k0) i) ?_
                refine lv_iconst (v := nI (0)) hx hb dX10_sheet_74 (by decide) ?_
                refine mias S hK hP hI hS (by omega) h144_3 (vp_in_nI (by omega) (by omega)) dX10_sheet_75 (fun g_4 H locs eg_4 hP hS => ?_)
                have h144_4 : g_4 144 = .inl (cy 1, 240, .inl (upd (clC k0 i CE) ((60 * k0) + i) (nI (0)))) := by rw [eg_4, va_up_self]; exact (arrI_up (by omega))
                have h114_4 : g_4 114 = mob ad (nI (n)) (nI (fa)) (nI (he)) (lN ov) (nI (un)) la bo (nI (tp)) ft (nI (wr0)) (nI (wa)) (nI (at0)) (nI (sp)) (nI (tk)) vl (nI (fi)) (nI (nm)) (nI (dp)) wy st (nI (aP)) (nI (aF)) (nI (aH)) (lN aO) (nI (ps)) (nI (mn)) go (nI (vi)) := ((congrFun eg_4 _).trans (va_up_ne _ _ (by omega))).trans h114_3
                have h142_4 : g_4 142 = .inl (cy 1, 4, .inl (upd LN k0 y0)) := ((congrFun eg_4 _).trans (va_up_ne _ _ (by omega))).trans h142_3
                have h143_4 : g_4 143 = .inl (cy 1, 4, .inl (fun x9 => nI ((va_up LE k0 zn) x9))) := ((congrFun eg_4 _).trans (va_up_ne _ _ (by omega))).trans h143_3
                have hfr_4 : ∀ j : Nat, j ≠ 142 → j ≠ 143 → j ≠ 144 → g_4 j = g j := fun j n0 n1 n2 => ((congrFun eg_4 _).trans (va_up_ne _ _ n2)).trans (hfr_3 j n0 n1 n2)
                refine lv_iinc (v := nI (i + 1)) (lv' := [(4, .int (nI (i + 1))), (0, .ref (ad 114)), (1, .int (nI (k0))), (2, .int y0), (3, .int (nI (zn)))]) hx hb dX10_sheet_76 hl (k := 0) rfl (by exact nI_add i 1) (by decide) rfl (fun ls hl => ?_)
                refine lv_goto (tgt := 56) hx hb dX10_sheet_79 (by decide) ?_
                exact ih56 (i + 1) (by omega) (by omega) g_4 _ _ h142_4 h143_4 (by rw [clC_s] at h144_4; exact h144_4) hfr_4 hP hS _ (lv_sub hl [0, 1, 2, 3, 4] rfl)
          exact L56 ((60 - 0) + 1) 0 (by omega) (Nat.lt_succ_self _) g_2 _ _ h142_2 h143_2 (by rw [clC_0]; assumption) (fun j n0 n1 n2 => hfr_2 j (by omega) (by omega)) hP hS _ (lv_sub hl [0, 1, 2, 3, 4] rfl)
        · skip
          have hP9 : isI (nI k0) 4 ∧ isI y0 3 ∧ ¬ nI 60 < z0 := ⟨hJ, c_21, Int32.not_lt.mpr c_27⟩
          have hC : ¬ (isI (nI k0) 4 ∧ isI y0 3 ∧ isI z0 61) := fun q => q.2.2.1 (Int32.not_le.mp c_33)
          refine lv_bipush (v := (-14)) hx hb dX10_sheet_36 (by decide) ?_
          exact rMi S hr hlk hP hS ⟨_, _, _, (by rw [if_pos hP9, if_pos (Int32.not_le.mp c_33)]), (by rw [if_neg hC, if_neg hC]; exact hSH), hM, hLN, hLE, hCE, (fun j n0 n1 n2 n3 => hfr j )⟩ dX10_sheet_38
      · skip
        have hN9 : ¬ (isI (nI k0) 4 ∧ isI y0 3 ∧ ¬ nI 60 < z0) := fun q => q.2.2 (Int32.not_le.mp c_27)
        have hC : ¬ (isI (nI k0) 4 ∧ isI y0 3 ∧ isI z0 61) := fun q => by obtain ⟨a, ha, rfl⟩ := isI_nat (by omega) q.2.2; exact c_27 (nI_le (by omega) (by omega))
        refine lv_iconst (v := (-1)) hx hb dX10_sheet_30 (by decide) ?_
        exact rMi S hr hlk hP hS ⟨_, _, _, (if_neg hN9).symm, (by rw [if_neg hC, if_neg hC]; exact hSH), hM, hLN, hLE, hCE, (fun j n0 n1 n2 n3 => hfr j )⟩ dX10_sheet_31
set_option maxHeartbeats 4000000 in
set_option maxRecDepth 100000 in
theorem c_X10_lay (l : Launch) (D : va_G) (cy : Nat → ClassId) (ad : Nat → Nat) (N : Nat) (g : Nat → va_E) (hinj : ∀ i j : Nat, i < N → j < N → ad i = ad j → i = j) (hN : 145 ≤ N) (n : Nat) (fa : Nat) (he : Nat) (ov : Nat) (un : Nat) (la : Int32) (bo : Int32) (tp : Nat) (ft : Int32) (wr0 : Nat) (wa : Nat) (at0 : Nat) (sp : Nat) (tk : Nat) (vl : Int32) (fi : Nat) (nm : Nat) (dp : Nat) (wy : Int32) (st : Int32) (aP : Nat) (aF : Nat) (aH : Nat) (aO : Nat) (ps : Nat) (mn : Nat) (go : Int32) (vi : Nat) (hM : g 114 = mob ad (nI (n)) (nI (fa)) (nI (he)) (lN ov) (nI (un)) la bo (nI (tp)) ft (nI (wr0)) (nI (wa)) (nI (at0)) (nI (sp)) (nI (tk)) vl (nI (fi)) (nI (nm)) (nI (dp)) wy st (nI (aP)) (nI (aF)) (nI (aH)) (lN aO) (nI (ps)) (nI (mn)) go (nI (vi))) (LN : Nat → Int32) (hLN : g 142 = .inl (cy 1, 4, .inl LN)) (LE : Nat → Nat) (hLE : g 143 = .inl (cy 1, 4, .inl (fun x9 => nI (LE x9)))) (CE : Nat → Int32) (hCE : g 144 = .inl (cy 1, 240, .inl CE)) (Sh : Nat → Int32 × Nat) (SK : Nat → Nat → Int32) (hSH : SHR LN LE CE Sh SK) (x0 : Int32) (y0 : Int32) (z0 : Int32) : Met l yX10_lay (WS yX10_lay cX10_lay 4 (some .int)) (rmF 1 25) (PP [.ref (ad 114), .int x0, .int y0, .int z0] D cy ad N g) (QI (fun r g1 => ∃ (CE2 : Nat → Int32), (r = if isI x0 4 then (if (Sh x0.toNatClampNeg).1 = -1 then -11 else if isI y0 (Sh x0.toNatClampNeg).2 then 1 else -12) else -1) ∧ (SHR LN LE CE2 Sh (if (isI x0 4 ∧ ¬ (Sh x0.toNatClampNeg).1 = -1) then va_up SK x0.toNatClampNeg (ptC (Sh x0.toNatClampNeg).1 (Sh x0.toNatClampNeg).2 (SK x0.toNatClampNeg) y0 z0) else SK)) ∧ g1 114 = mob ad (nI (n)) (nI (fa)) (nI (he)) (lN ov) (nI (un)) la bo (nI (tp)) ft (nI (wr0)) (nI (wa)) (nI (at0)) (nI (sp)) (nI (tk)) vl (nI (fi)) (nI (nm)) (nI (dp)) wy st (nI (aP)) (nI (aF)) (nI (aH)) (lN aO) (nI (ps)) (nI (mn)) go (nI (vi)) ∧ g1 144 = .inl (cy 1, 240, .inl CE2) ∧ (∀ j, j ≠ 114 → j ≠ 144 → g1 j = g j)) D ad N) 0 0 (AA ad N) := by
  refine mentry (by decide) (Nat.le_of_ble_eq_true rfl) (fun p e s m below meth c ls S hr hlk hnm hP hK hl => ?_)
  have S : CallFix p m c cX10_lay 4 s _ wsL_law RX10 := S
  have hx := S.1
  have hb := S.2.1
  have hl : lv_has ls 4 [(0, .ref (ad 114)), (1, .int x0), (2, .int y0), (3, .int z0)] := hl
  have hI : MD (AA ad N) ad N := MD.in hinj
  have hS : va_S (AA ad N) s.heap s.heap [] := va_S.rf
  have hfr : ∀ j : Nat, g j = g j := fun _ => rfl
  refine lv_iload_n hx hb dX10_lay_0 rfl (lv_at hl 1 rfl) ?_
  refine lv_i2l hx hb dX10_lay_1 rfl ?_
  refine lv_lconst (v := lN 0) hx hb dX10_lay_2 (by decide) ?_
  refine lv_ldc2 hx hb S.2.2.2.1 (S.2.2.2.2 _ m_X10_373) dX10_lay_3 ?_
  refine tpl (show (3 : Int64) = lN 3 from rfl) ?_
  refine kSi (As := [.long x0.toInt64, .long (lN 0), .long (lN 3)]) (rest := []) S hK hP (c_X10_in l D cy ad N g x0.toInt64 (lN 0) (lN 3)) cs_X10_115 ⟨rfl, rfl⟩ rfl hl.1 rfl (Nat.le_of_ble_eq_true rfl) ⟨Nat.zero_le _, Nat.zero_le _⟩ dX10_lay_6 (fun r_6 q_6 => ?_)
  subst q_6
  refine tpi (ifC (in_0 (n := 4) (by omega) (by omega))) ?_
  refine lv_if_ne (tgt := 14) hx hb dX10_lay_9 (by decide) (fun c_9 => ?_) (fun c_9 => ?_)
  · skip
    have c_9 := bz_ne.mp c_9
    obtain ⟨k0, hk0b, rfl⟩ := isI_nat (by omega) c_9
    have hJ := c_9
    have hk031 : k0 < 2 ^ 31 := by omega
    have hq := hSH k0 hk0b
    have hsz := hq.2.2.2.1
    have hJ0 := hJ
    refine lv_aload_n hx hb dX10_lay_14 rfl (lv_at hl 0 rfl) ?_
    refine mg S hK hP (by omega) hM fd_X10_102 rfl dX10_lay_15 ?_
    refine lv_iload_n hx hb dX10_lay_18 rfl (lv_at hl 1 rfl) ?_
    refine mial S hK hP (by omega) hLN (vp_in_nI (by omega) (by omega)) dX10_lay_19 ?_
    refine tpi (congrArg LN (nI_clamp (by omega))) ?_
    refine tpi (hq.1) ?_
    refine lv_bipush (v := (-4)) hx hb dX10_lay_20 (by decide) ?_
    refine lv_icmp_ne (tgt := 28) hx hb dX10_lay_22 (by decide) (fun c_22 => ?_) (fun c_22 => ?_)
    · skip
      have h1 : ¬ (Sh k0).1 = -1 := fun q => c_22 ((lo_1 hq.2.2.1).mpr q)
      have hC : isI (nI k0) 4 ∧ ¬ (Sh k0).1 = -1 := ⟨hJ, h1⟩
      refine lv_iload_n hx hb dX10_lay_28 rfl (lv_at hl 2 rfl) ?_
      refine lv_i2l hx hb dX10_lay_29 rfl ?_
      refine lv_lconst (v := lN 0) hx hb dX10_lay_30 (by decide) ?_
      refine lv_aload_n hx hb dX10_lay_31 rfl (lv_at hl 0 rfl) ?_
      refine mg S hK hP (by omega) hM fd_X10_105 rfl dX10_lay_32 ?_
      refine lv_iload_n hx hb dX10_lay_35 rfl (lv_at hl 1 rfl) ?_
      refine mial S hK hP (by omega) hLE (vp_in_nI (by omega) (by omega)) dX10_lay_36 ?_
      refine tpi (congrArg ((fun x9 => nI (LE x9))) (nI_clamp (by omega))) ?_
      refine tpi (congrArg nI hq.2.1) ?_
      refine lv_iconst (v := nI (1)) hx hb dX10_lay_37 (by decide) ?_
      refine lv_isub hx hb dX10_lay_38 ?_
      refine lv_i2l hx hb dX10_lay_39 rfl ?_
      refine kSi (As := [.long y0.toInt64, .long (lN 0), .long (((nI ((Sh k0).2)) - (nI (1))).toInt64)]) (rest := []) S hK hP (c_X10_in l D cy ad N g y0.toInt64 (lN 0) (((nI ((Sh k0).2)) - (nI (1))).toInt64)) cs_X10_115 ⟨rfl, rfl⟩ rfl hl.1 rfl (Nat.le_of_ble_eq_true rfl) ⟨Nat.zero_le _, Nat.zero_le _⟩ dX10_lay_40 (fun r_40 q_40 => ?_)
      subst q_40
      refine tpi (ifC (in_00 (by omega))) ?_
      refine lv_if_ne (tgt := 49) hx hb dX10_lay_43 (by decide) (fun c_43 => ?_) (fun c_43 => ?_)
      · skip
        have c_43 := bz_ne.mp c_43
        obtain ⟨j0, hj0b, rfl⟩ := isI_nat (by omega) c_43
        have hJ := c_43
        have hj031 : j0 < 2 ^ 31 := by omega
        refine lv_aload_n hx hb dX10_lay_49 rfl (lv_at hl 0 rfl) ?_
        refine mg S hK hP (by omega) hM fd_X10_108 rfl dX10_lay_50 ?_
        refine lv_bipush (v := nI (60)) hx hb dX10_lay_53 (by decide) ?_
        refine lv_iload_n hx hb dX10_lay_55 rfl (lv_at hl 1 rfl) ?_
        refine lv_imul hx hb dX10_lay_56 ?_
        refine tpi (pk_mul 60 k0) ?_
        refine lv_iload_n hx hb dX10_lay_57 rfl (lv_at hl 2 rfl) ?_
        refine lv_iadd hx hb dX10_lay_58 ?_
        refine tpi (nI_add (60 * k0) j0) ?_
        refine lv_aload_n hx hb dX10_lay_59 rfl (lv_at hl 0 rfl) ?_
        refine mg S hK hP (by omega) hM fd_X10_102 rfl dX10_lay_60 ?_
        refine lv_iload_n hx hb dX10_lay_63 rfl (lv_at hl 1 rfl) ?_
        refine mial S hK hP (by omega) hLN (vp_in_nI (by omega) (by omega)) dX10_lay_64 ?_
        refine tpi (congrArg LN (nI_clamp (by omega))) ?_
        refine tpi (hq.1) ?_
        have J99 : ∀ (z9 : Int32), (z9 = narL (Sh k0).1 z0) → ∀ (ls : Array Slot), lv_has ls 4 [(0, .ref (ad 114)), (1, .int (nI (k0))), (2, .int (nI (j0))), (3, .int z0)] → W p l e (rmF 1 25) s m [.ref (ad 114), .int (nI k0), .int (nI j0), .int z0].toArray below meth c s.heap [] 0 0 (MQ below (QI (fun r g1 => ∃ (CE2 : Nat → Int32), (r = if isI (nI k0) 4 then (if (Sh (nI k0).toNatClampNeg).1 = -1 then -11 else if isI (nI j0) (Sh (nI k0).toNatClampNeg).2 then 1 else -12) else -1) ∧ (SHR LN LE CE2 Sh (if (isI (nI k0) 4 ∧ ¬ (Sh (nI k0).toNatClampNeg).1 = -1) then va_up SK (nI k0).toNatClampNeg (ptC (Sh (nI k0).toNatClampNeg).1 (Sh (nI k0).toNatClampNeg).2 (SK (nI k0).toNatClampNeg) (nI j0) z0) else SK)) ∧ g1 114 = mob ad (nI (n)) (nI (fa)) (nI (he)) (lN ov) (nI (un)) la bo (nI (tp)) ft (nI (wr0)) (nI (wa)) (nI (at0)) (nI (sp)) (nI (tk)) vl (nI (fi)) (nI (nm)) (nI (dp)) wy st (nI (aP)) (nI (aF)) (nI (aH)) (lN aO) (nI (ps)) (nI (mn)) go (nI (vi)) ∧ g1 144 = .inl (cy 1, 240, .inl CE2) ∧ (∀ j, j ≠ 114 → j ≠ 144 → g1 j = g j)) D ad N) [.ref (ad 114), .int (nI k0), .int (nI j0), .int z0].toArray s 0 0 (AA ad N)) (F0 m 99 ls [.int z9, .int (nI ((60 * k0) + j0)), .ref (ad 144)]) := by
          intro z9 hz9 ls hl
          refine mias S hK hP hI hS (by omega) hCE (vp_in_nI (by omega) (by omega)) dX10_lay_99 (fun g_1 H locs eg_1 hP hS => ?_)
          have h144_1 : g_1 144 = .inl (cy 1, 240, .inl (upd CE ((60 * k0) + j0) z9)) := by rw [eg_1, va_up_self]; exact (arrI_up (by omega))
          have h114_1 : g_1 114 = mob ad (nI (n)) (nI (fa)) (nI (he)) (lN ov) (nI (un)) la bo (nI (tp)) ft (nI (wr0)) (nI (wa)) (nI (at0)) (nI (sp)) (nI (tk)) vl (nI (fi)) (nI (nm)) (nI (dp)) wy st (nI (aP)) (nI (aF)) (nI (aH)) (lN aO) (nI (ps)) (nI (mn)) go (nI (vi)) := ((congrFun eg_1 _).trans (va_up_ne _ _ (by omega))).trans hM
          have h142_1 : g_1 142 = .inl (cy 1, 4, .inl LN) := ((congrFun eg_1 _).trans (va_up_ne _ _ (by omega))).trans hLN
          have h143_1 : g_1 143 = .inl (cy 1, 4, .inl (fun x9 => nI (LE x9))) := ((congrFun eg_1 _).trans (va_up_ne _ _ (by omega))).trans hLE
          have hfr_1 : ∀ j : Nat, j ≠ 144 → g_1 j = g j := fun j n0 => ((congrFun eg_1 _).trans (va_up_ne _ _ n0)).trans (hfr j )
          refine lv_iconst (v := nI (1)) hx hb dX10_lay_100 (by decide) ?_
          exact rMi S hr hlk hP hS ⟨_, (by rw [if_pos hJ0, nI_clamp hk031, if_neg h1, if_pos hJ]; rfl), (by rw [nI_clamp hk031, if_pos hC, hz9]; exact SHR_put hSH hk0b hj0b), h114_1, h144_1, (fun j n0 n1 => hfr_1 j (by omega))⟩ dX10_lay_101
        refine lv_if_ne (tgt := 78) hx hb dX10_lay_65 (by decide) (fun c_65 => ?_) (fun c_65 => ?_)
        · skip
          refine lv_aload_n hx hb dX10_lay_78 rfl (lv_at hl 0 rfl) ?_
          refine mg S hK hP (by omega) hM fd_X10_102 rfl dX10_lay_79 ?_
          refine lv_iload_n hx hb dX10_lay_82 rfl (lv_at hl 1 rfl) ?_
          refine mial S hK hP (by omega) hLN (vp_in_nI (by omega) (by omega)) dX10_lay_83 ?_
          refine tpi (congrArg LN (nI_clamp (by omega))) ?_
          refine tpi (hq.1) ?_
          refine lv_iconst (v := nI (1)) hx hb dX10_lay_84 (by decide) ?_
          refine lv_icmp_ne (tgt := 98) hx hb dX10_lay_85 (by decide) (fun c_85 => ?_) (fun c_85 => ?_)
          · skip
            refine lv_iload_n hx hb dX10_lay_98 rfl (lv_at hl 3 rfl) ?_
            exact J99 z0 (by unfold narL; rw [if_neg (show ¬ (Sh k0).1 = 0 from fun q => c_65 ((lo_e hq.2.2.1 ((isI_nI (by decide) (by decide)).mpr (by decide))).mpr q)), if_neg (show ¬ (Sh k0).1 = 1 from fun q => c_85 ((lo_e hq.2.2.1 ((isI_nI (by decide) (by decide)).mpr (by decide))).mpr q))]) _ (lv_sub hl [0, 1, 2, 3] rfl)
          · skip
            refine lv_iload_n hx hb dX10_lay_88 rfl (lv_at hl 3 rfl) ?_
            refine lv_bipush (v := nI (16)) hx hb dX10_lay_89 (by decide) ?_
            refine lv_ishl hx hb dX10_lay_91 ?_
            refine lv_bipush (v := nI (16)) hx hb dX10_lay_92 (by decide) ?_
            refine lv_ishr hx hb dX10_lay_94 ?_
            refine tpi (nar16 z0) ?_
            refine lv_goto (tgt := 99) hx hb dX10_lay_95 (by decide) ?_
            exact J99 z0.toInt16.toInt32 (by unfold narL; rw [if_neg (show ¬ (Sh k0).1 = 0 from fun q => c_65 ((lo_e hq.2.2.1 ((isI_nI (by decide) (by decide)).mpr (by decide))).mpr q)), if_pos (show (Sh k0).1 = 1 from (lo_e hq.2.2.1 ((isI_nI (by decide) (by decide)).mpr (by decide))).mp c_85)]) _ (lv_sub hl [0, 1, 2, 3] rfl)
        · skip
          refine lv_iload_n hx hb dX10_lay_68 rfl (lv_at hl 3 rfl) ?_
          refine lv_bipush (v := nI (24)) hx hb dX10_lay_69 (by decide) ?_
          refine lv_ishl hx hb dX10_lay_71 ?_
          refine lv_bipush (v := nI (24)) hx hb dX10_lay_72 (by decide) ?_
          refine lv_ishr hx hb dX10_lay_74 ?_
          refine tpi (nar8 z0) ?_
          refine lv_goto (tgt := 99) hx hb dX10_lay_75 (by decide) ?_
          exact J99 z0.toInt8.toInt32 (by unfold narL; rw [if_pos (show (Sh k0).1 = 0 from (lo_e hq.2.2.1 ((isI_nI (by decide) (by decide)).mpr (by decide))).mp c_65)]) _ (lv_sub hl [0, 1, 2, 3] rfl)
      · skip
        have c_43 := bz_eq.mp c_43
        refine lv_bipush (v := (-12)) hx hb dX10_lay_46 (by decide) ?_
        exact rMi S hr hlk hP hS ⟨_, (by rw [if_pos hJ0, nI_clamp hk031, if_neg h1, if_neg c_43]), (by rw [nI_clamp hk031, if_pos hC]; exact SHR_no hSH hk0b c_43), hM, hCE, (fun j n0 n1 => hfr j )⟩ dX10_lay_48
    · skip
      have h1 := (lo_1 hq.2.2.1).mp c_22
      have hC : ¬ (isI (nI k0) 4 ∧ ¬ (Sh k0).1 = -1) := fun q => q.2 h1
      refine lv_bipush (v := (-11)) hx hb dX10_lay_25 (by decide) ?_
      exact rMi S hr hlk hP hS ⟨_, (by rw [if_pos hJ0, nI_clamp hk031, if_pos h1]), (by rw [nI_clamp hk031, if_neg hC]; exact hSH), hM, hCE, (fun j n0 n1 => hfr j )⟩ dX10_lay_27
  · skip
    have c_9 := bz_eq.mp c_9
    have hJ : ¬ isI x0 4 := c_9
    refine lv_iconst (v := (-1)) hx hb dX10_lay_12 (by decide) ?_
    exact rMi S hr hlk hP hS ⟨_, (if_neg hJ).symm, (by rw [if_neg (fun q => hJ q.1)]; exact hSH), hM, hCE, (fun j n0 n1 => hfr j )⟩ dX10_lay_13
set_option maxHeartbeats 4000000 in
set_option maxRecDepth 100000 in
theorem c_X10_scan (l : Launch) (D : va_G) (cy : Nat → ClassId) (ad : Nat → Nat) (N : Nat) (g : Nat → va_E) (hinj : ∀ i j : Nat, i < N → j < N → ad i = ad j → i = j) (hN : 145 ≤ N) (F : FS) (la : Int32) (bo : Int32) (tp : Nat) (ft : Int32) (wr0 : Nat) (wa : Nat) (at0 : Nat) (sp : Nat) (tk : Nat) (vl : Int32) (fi : Nat) (nm : Nat) (dp : Nat) (wy : Int32) (st : Int32) (aP : Nat) (aF : Nat) (aH : Nat) (aO : Nat) (ps : Nat) (mn : Nat) (go : Int32) (vi : Nat) (hM : g 114 = mob ad (nI (wn F.1)) (nI (wf F.1)) (nI (wh F.1)) (lN (wo F.1)) (nI (F.2.2.2)) la bo (nI (tp)) ft (nI (wr0)) (nI (wa)) (nI (at0)) (nI (sp)) (nI (tk)) vl (nI (fi)) (nI (nm)) (nI (dp)) wy st (nI (aP)) (nI (aF)) (nI (aH)) (lN aO) (nI (ps)) (nI (mn)) go (nI (vi))) (P : Nat → Nat) (hP9 : g 115 = .inl (cy 1, 8, .inl (fun x9 => nI (P x9)))) (hF : FOK F) (hPw : ∀ i, i < wn F.1 → P i = wp F.1 i) (OP : Nat → Nat) (hO1 : g 116 = .inl (cy 1, 12, .inl (fun x9 => nI (OP x9)))) (OF : Nat → Nat) (hO2 : g 117 = .inl (cy 1, 12, .inl (fun x9 => nI (OF x9)))) (OH : Nat → Nat) (hO3 : g 118 = .inl (cy 1, 12, .inl (fun x9 => nI (OH x9)))) (OO : Nat → Int64) (hO4 : g 119 = .inl (cy 2, 12, .inr (.inl OO))) (hUR : UR F OP OF OH OO) (LN : Nat → Int32) (hLN : g 142 = .inl (cy 1, 4, .inl LN)) (LE : Nat → Nat) (hLE : g 143 = .inl (cy 1, 4, .inl (fun x9 => nI (LE x9)))) (CE : Nat → Int32) (hCE : g 144 = .inl (cy 1, 240, .inl CE)) (Sh : Nat → Int32 × Nat) (SK : Nat → Nat → Int32) (hSH : SHR LN LE CE Sh SK) (x0 : Int32) (y0 : Int32) (f0 : Int32) (z0 : Int32) : Met l yX10_scan (WS yX10_scan cX10_scan 10 (some .int)) (rmF 5 129) (PP [.ref (ad 114), .int x0, .int y0, .int f0, .int z0] D cy ad N g) (QI (fun r g1 => ∃ (P2 : Nat → Nat), ∃ (OP2 : Nat → Nat), ∃ (OF2 : Nat → Nat), ∃ (OH2 : Nat → Nat), ∃ (OO2 : Nat → Int64), (r = (if (isI x0 4 ∧ isI y0 3 ∧ isI z0 31) then (if (Sh x0.toNatClampNeg).1 = -1 then (-11, F) else if (Sh x0.toNatClampNeg).1 = y0 then scA (SK x0.toNatClampNeg) (Sh x0.toNatClampNeg).2 f0 z0.toNatClampNeg z0.toNatClampNeg F 0 else (-13, F)) else (-1, F)).1) ∧ (∀ i, i < wn F.1 → P2 i = wp (if (isI x0 4 ∧ isI y0 3 ∧ isI z0 31) then (if (Sh x0.toNatClampNeg).1 = -1 then (-11, F) else if (Sh x0.toNatClampNeg).1 = y0 then scA (SK x0.toNatClampNeg) (Sh x0.toNatClampNeg).2 f0 z0.toNatClampNeg z0.toNatClampNeg F 0 else (-13, F)) else (-1, F)).2.1 i) ∧ (UR (if (isI x0 4 ∧ isI y0 3 ∧ isI z0 31) then (if (Sh x0.toNatClampNeg).1 = -1 then (-11, F) else if (Sh x0.toNatClampNeg).1 = y0 then scA (SK x0.toNatClampNeg) (Sh x0.toNatClampNeg).2 f0 z0.toNatClampNeg z0.toNatClampNeg F 0 else (-13, F)) else (-1, F)).2 OP2 OF2 OH2 OO2) ∧ g1 114 = mob ad (nI (wn F.1)) (nI (wf (if (isI x0 4 ∧ isI y0 3 ∧ isI z0 31) then (if (Sh x0.toNatClampNeg).1 = -1 then (-11, F) else if (Sh x0.toNatClampNeg).1 = y0 then scA (SK x0.toNatClampNeg) (Sh x0.toNatClampNeg).2 f0 z0.toNatClampNeg z0.toNatClampNeg F 0 else (-13, F)) else (-1, F)).2.1)) (nI (wh (if (isI x0 4 ∧ isI y0 3 ∧ isI z0 31) then (if (Sh x0.toNatClampNeg).1 = -1 then (-11, F) else if (Sh x0.toNatClampNeg).1 = y0 then scA (SK x0.toNatClampNeg) (Sh x0.toNatClampNeg).2 f0 z0.toNatClampNeg z0.toNatClampNeg F 0 else (-13, F)) else (-1, F)).2.1)) (lN (wo (if (isI x0 4 ∧ isI y0 3 ∧ isI z0 31) then (if (Sh x0.toNatClampNeg).1 = -1 then (-11, F) else if (Sh x0.toNatClampNeg).1 = y0 then scA (SK x0.toNatClampNeg) (Sh x0.toNatClampNeg).2 f0 z0.toNatClampNeg z0.toNatClampNeg F 0 else (-13, F)) else (-1, F)).2.1)) (nI ((if (isI x0 4 ∧ isI y0 3 ∧ isI z0 31) then (if (Sh x0.toNatClampNeg).1 = -1 then (-11, F) else if (Sh x0.toNatClampNeg).1 = y0 then scA (SK x0.toNatClampNeg) (Sh x0.toNatClampNeg).2 f0 z0.toNatClampNeg z0.toNatClampNeg F 0 else (-13, F)) else (-1, F)).2.2.2.2)) la bo (nI (tp)) ft (nI (wr0)) (nI (wa)) (nI (at0)) (nI (sp)) (nI (tk)) vl (nI (fi)) (nI (nm)) (nI (dp)) wy st (nI (aP)) (nI (aF)) (nI (aH)) (lN aO) (nI (ps)) (nI (mn)) go (nI (vi)) ∧ g1 115 = .inl (cy 1, 8, .inl (fun x9 => nI (P2 x9))) ∧ g1 116 = .inl (cy 1, 12, .inl (fun x9 => nI (OP2 x9))) ∧ g1 117 = .inl (cy 1, 12, .inl (fun x9 => nI (OF2 x9))) ∧ g1 118 = .inl (cy 1, 12, .inl (fun x9 => nI (OH2 x9))) ∧ g1 119 = .inl (cy 2, 12, .inr (.inl OO2)) ∧ (∀ j, j ≠ 114 → j ≠ 115 → j ≠ 116 → j ≠ 117 → j ≠ 118 → j ≠ 119 → g1 j = g j)) D ad N) 0 0 (AA ad N) := by
  refine mentry (by decide) (Nat.le_of_ble_eq_true rfl) (fun p e s m below meth c ls S hr hlk hnm hP hK hl => ?_)
  have S : CallFix p m c cX10_scan 10 s _ wsL_law RX10 := S
  have hx := S.1
  have hb := S.2.1
  have hl : lv_has ls 10 [(0, .ref (ad 114)), (1, .int x0), (2, .int y0), (3, .int f0), (4, .int z0)] := hl
  have hI : MD (AA ad N) ad N := MD.in hinj
  have hS : va_S (AA ad N) s.heap s.heap [] := va_S.rf
  have hfr : ∀ j : Nat, g j = g j := fun _ => rfl
  have hw := hF.1
  have hn4 := hw.1.1
  have hn8 := hw.1.2
  refine lv_iload_n hx hb dX10_scan_0 rfl (lv_at hl 1 rfl) ?_
  refine lv_i2l hx hb dX10_scan_1 rfl ?_
  refine lv_lconst (v := lN 0) hx hb dX10_scan_2 (by decide) ?_
  refine lv_ldc2 hx hb S.2.2.2.1 (S.2.2.2.2 _ m_X10_373) dX10_scan_3 ?_
  refine tpl (show (3 : Int64) = lN 3 from rfl) ?_
  refine kSi (As := [.long x0.toInt64, .long (lN 0), .long (lN 3)]) (rest := []) S hK hP (c_X10_in l D cy ad N g x0.toInt64 (lN 0) (lN 3)) cs_X10_115 ⟨rfl, rfl⟩ rfl hl.1 rfl (Nat.le_of_ble_eq_true rfl) ⟨Nat.zero_le _, Nat.zero_le _⟩ dX10_scan_6 (fun r_6 q_6 => ?_)
  subst q_6
  refine tpi (ifC (in_0 (n := 4) (by omega) (by omega))) ?_
  refine lv_if_eq (tgt := 37) hx hb dX10_scan_9 (by decide) (fun c_9 => ?_) (fun c_9 => ?_)
  · skip
    have c_9 := bz_eq.mp c_9
    have hC9 : ¬ (isI x0 4 ∧ isI y0 3 ∧ isI z0 31) := fun q => c_9 q.1
    refine lv_iconst (v := (-1)) hx hb dX10_scan_37 (by decide) ?_
    exact rMi S hr hlk hP hS ⟨_, _, _, _, _, (by simp only [if_neg hC9]), (by simp only [if_neg hC9]; exact hPw), (by simp only [if_neg hC9]; exact hUR), (by simp only [if_neg hC9]; exact hM), hP9, hO1, hO2, hO3, hO4, (fun j n0 n1 n2 n3 n4 n5 => hfr j )⟩ dX10_scan_38
  · skip
    have c_9 := bz_ne.mp c_9
    obtain ⟨k0, hk0b, rfl⟩ := isI_nat (by omega) c_9
    have hJ := c_9
    have hk031 : k0 < 2 ^ 31 := by omega
    have hq := hSH k0 hk0b
    have hsz := hq.2.2.2.1
    refine lv_iload_n hx hb dX10_scan_12 rfl (lv_at hl 2 rfl) ?_
    refine lv_i2l hx hb dX10_scan_13 rfl ?_
    refine lv_lconst (v := lN 0) hx hb dX10_scan_14 (by decide) ?_
    refine lv_ldc2 hx hb S.2.2.2.1 (S.2.2.2.2 _ m_X10_204) dX10_scan_15 ?_
    refine tpl (show (2 : Int64) = lN 2 from rfl) ?_
    refine kSi (As := [.long y0.toInt64, .long (lN 0), .long (lN 2)]) (rest := []) S hK hP (c_X10_in l D cy ad N g y0.toInt64 (lN 0) (lN 2)) cs_X10_115 ⟨rfl, rfl⟩ rfl hl.1 rfl (Nat.le_of_ble_eq_true rfl) ⟨Nat.zero_le _, Nat.zero_le _⟩ dX10_scan_18 (fun r_18 q_18 => ?_)
    subst q_18
    refine tpi (ifC (in_0 (n := 3) (by omega) (by omega))) ?_
    refine lv_if_eq (tgt := 37) hx hb dX10_scan_21 (by decide) (fun c_21 => ?_) (fun c_21 => ?_)
    · skip
      have c_21 := bz_eq.mp c_21
      have hC9 : ¬ (isI (nI k0) 4 ∧ isI y0 3 ∧ isI z0 31) := fun q => c_21 q.2.1
      refine lv_iconst (v := (-1)) hx hb dX10_scan_37 (by decide) ?_
      exact rMi S hr hlk hP hS ⟨_, _, _, _, _, (by simp only [if_neg hC9]), (by simp only [if_neg hC9]; exact hPw), (by simp only [if_neg hC9]; exact hUR), (by simp only [if_neg hC9]; exact hM), hP9, hO1, hO2, hO3, hO4, (fun j n0 n1 n2 n3 n4 n5 => hfr j )⟩ dX10_scan_38
    · skip
      have c_21 := bz_ne.mp c_21
      refine lv_iload hx hb dX10_scan_24 (lv_at hl 4 rfl) ?_
      refine lv_i2l hx hb dX10_scan_26 rfl ?_
      refine lv_lconst (v := lN 0) hx hb dX10_scan_27 (by decide) ?_
      refine lv_ldc2 hx hb S.2.2.2.1 (S.2.2.2.2 _ m_X10_375) dX10_scan_28 ?_
      refine tpl (show (30 : Int64) = lN 30 from rfl) ?_
      refine kSi (As := [.long z0.toInt64, .long (lN 0), .long (lN 30)]) (rest := []) S hK hP (c_X10_in l D cy ad N g z0.toInt64 (lN 0) (lN 30)) cs_X10_115 ⟨rfl, rfl⟩ rfl hl.1 rfl (Nat.le_of_ble_eq_true rfl) ⟨Nat.zero_le _, Nat.zero_le _⟩ dX10_scan_31 (fun r_31 q_31 => ?_)
      subst q_31
      refine tpi (ifC (in_0 (n := 31) (by omega) (by omega))) ?_
      refine lv_if_ne (tgt := 39) hx hb dX10_scan_34 (by decide) (fun c_34 => ?_) (fun c_34 => ?_)
      · skip
        have c_34 := bz_ne.mp c_34
        have hJ1 := hJ
        obtain ⟨zn, hznb, rfl⟩ := isI_nat (by omega) c_34
        have hJ := c_34
        have hzn31 : zn < 2 ^ 31 := by omega
        have hC9 : isI (nI k0) 4 ∧ isI y0 3 ∧ isI (nI zn) 31 := ⟨hJ1, c_21, hJ⟩
        refine lv_aload_n hx hb dX10_scan_39 rfl (lv_at hl 0 rfl) ?_
        refine mg S hK hP (by omega) hM fd_X10_102 rfl dX10_scan_40 ?_
        refine lv_iload_n hx hb dX10_scan_43 rfl (lv_at hl 1 rfl) ?_
        refine mial S hK hP (by omega) hLN (vp_in_nI (by omega) (by omega)) dX10_scan_44 ?_
        refine tpi (congrArg LN (nI_clamp (by omega))) ?_
        refine tpi (hq.1) ?_
        refine lv_iload_n hx hb dX10_scan_45 rfl (lv_at hl 2 rfl) ?_
        refine lv_icmp_eq (tgt := 68) hx hb dX10_scan_46 (by decide) (fun c_46 => ?_) (fun c_46 => ?_)
        · skip
          have h2 := (lo_e hq.2.2.1 c_21).mp c_46
          have h1 : ¬ (Sh k0).1 = -1 := fun q => by rw [q] at h2; rw [← h2] at c_21; exact c_21.1 (by decide)
          refine lv_iconst (v := nI (0)) hx hb dX10_scan_68 (by decide) ?_
          refine lv_istore (lv' := [(5, .int (nI (0))), (0, .ref (ad 114)), (1, .int (nI (k0))), (2, .int y0), (3, .int f0), (4, .int (nI (zn)))]) hx hb dX10_scan_69 hl (by decide) rfl (fun ls hl => ?_)
          have L71 : ∀ (fu : Nat) (c9 : Nat) (F3 : FS) (P3 OP3 OF3 OH3 : Nat → Nat) (OO3 : Nat → Int64), (c9 ≤ zn) → (FOK F3) → (∀ j, j < wn F3.1 → P3 j = wp F3.1 j) → (UR F3 OP3 OF3 OH3 OO3) → (wn F3.1 = wn F.1) → (scA (SK k0) (Sh k0).2 f0 zn zn F 0 = scA (SK k0) (Sh k0).2 f0 zn (zn - c9) F3 c9) → (zn - c9) < fu → ∀ (g_1 : Nat → va_E) (H : Heap) (locs : List Loc), g_1 114 = mob ad (nI (wn F3.1)) (nI (wf F3.1)) (nI (wh F3.1)) (lN (wo F3.1)) (nI (F3.2.2.2)) la bo (nI (tp)) ft (nI (wr0)) (nI (wa)) (nI (at0)) (nI (sp)) (nI (tk)) vl (nI (fi)) (nI (nm)) (nI (dp)) wy st (nI (aP)) (nI (aF)) (nI (aH)) (lN aO) (nI (ps)) (nI (mn)) go (nI (vi)) → g_1 115 = .inl (cy 1, 8, .inl (fun x9 => nI (P3 x9))) → g_1 116 = .inl (cy 1, 12, .inl (fun x9 => nI (OP3 x9))) → g_1 117 = .inl (cy 1, 12, .inl (fun x9 => nI (OF3 x9))) → g_1 118 = .inl (cy 1, 12, .inl (fun x9 => nI (OH3 x9))) → g_1 119 = .inl (cy 2, 12, .inr (.inl OO3)) → (∀ j : Nat, j ≠ 114 → j ≠ 115 → j ≠ 116 → j ≠ 117 → j ≠ 118 → j ≠ 119 → g_1 j = g j) → MM D ad N g_1 H → va_S (AA ad N) s.heap H locs → ∀ (ls : Array Slot), lv_has ls 10 [(5, .int (nI (c9))), (0, .ref (ad 114)), (1, .int (nI (k0))), (2, .int y0), (3, .int f0), (4, .int (nI (zn)))] → W p l e (rmF 5 129) s m [.ref (ad 114), .int (nI k0), .int y0, .int f0, .int (nI zn)].toArray below meth c H locs 0 0 (MQ below (QI (fun r g1 => ∃ (P2 : Nat → Nat), ∃ (OP2 : Nat → Nat), ∃ (OF2 : Nat → Nat), ∃ (OH2 : Nat → Nat), ∃ (OO2 : Nat → Int64), (r = (if (isI (nI k0) 4 ∧ isI y0 3 ∧ isI (nI zn) 31) then (if (Sh (nI k0).toNatClampNeg).1 = -1 then (-11, F) else if (Sh (nI k0).toNatClampNeg).1 = y0 then scA (SK (nI k0).toNatClampNeg) (Sh (nI k0).toNatClampNeg).2 f0 (nI zn).toNatClampNeg (nI zn).toNatClampNeg F 0 else (-13, F)) else (-1, F)).1) ∧ (∀ i, i < wn F.1 → P2 i = wp (if (isI (nI k0) 4 ∧ isI y0 3 ∧ isI (nI zn) 31) then (if (Sh (nI k0).toNatClampNeg).1 = -1 then (-11, F) else if (Sh (nI k0).toNatClampNeg).1 = y0 then scA (SK (nI k0).toNatClampNeg) (Sh (nI k0).toNatClampNeg).2 f0 (nI zn).toNatClampNeg (nI zn).toNatClampNeg F 0 else (-13, F)) else (-1, F)).2.1 i) ∧ (UR (if (isI (nI k0) 4 ∧ isI y0 3 ∧ isI (nI zn) 31) then (if (Sh (nI k0).toNatClampNeg).1 = -1 then (-11, F) else if (Sh (nI k0).toNatClampNeg).1 = y0 then scA (SK (nI k0).toNatClampNeg) (Sh (nI k0).toNatClampNeg).2 f0 (nI zn).toNatClampNeg (nI zn).toNatClampNeg F 0 else (-13, F)) else (-1, F)).2 OP2 OF2 OH2 OO2) ∧ g1 114 = mob ad (nI (wn F.1)) (nI (wf (if (isI (nI k0) 4 ∧ isI y0 3 ∧ isI (nI zn) 31) then (if (Sh (nI k0).toNatClampNeg).1 = -1 then (-11, F) else if (Sh (nI k0).toNatClampNeg).1 = y0 then scA (SK (nI k0).toNatClampNeg) (Sh (nI k0).toNatClampNeg).2 f0 (nI zn).toNatClampNeg (nI zn).toNatClampNeg F 0 else (-13, F)) else (-1, F)).2.1)) (nI (wh (if (isI (nI k0) 4 ∧ isI y0 3 ∧ isI (nI zn) 31) then (if (Sh (nI k0).toNatClampNeg).1 = -1 then (-11, F) else if (Sh (nI k0).toNatClampNeg).1 = y0 then scA (SK (nI k0).toNatClampNeg) (Sh (nI k0).toNatClampNeg).2 f0 (nI zn).toNatClampNeg (nI zn).toNatClampNeg F 0 else (-13, F)) else (-1, F)).2.1)) (lN (wo (if (isI (nI k0) 4 ∧ isI y0 3 ∧ isI (nI zn) 31) then (if (Sh (nI k0).toNatClampNeg).1 = -1 then (-11, F) else if (Sh (nI k0).toNatClampNeg).1 = y0 then scA (SK (nI k0).toNatClampNeg) (Sh (nI k0).toNatClampNeg).2 f0 (nI zn).toNatClampNeg (nI zn).toNatClampNeg F 0 else (-13, F)) else (-1, F)).2.1)) (nI ((if (isI (nI k0) 4 ∧ isI y0 3 ∧ isI (nI zn) 31) then (if (Sh (nI k0).toNatClampNeg).1 = -1 then (-11, F) else if (Sh (nI k0).toNatClampNeg).1 = y0 then scA (SK (nI k0).toNatClampNeg) (Sh (nI k0).toNatClampNeg).2 f0 (nI zn).toNatClampNeg (nI zn).toNatClampNeg F 0 else (-13, F)) else (-1, F)).2.2.2.2)) la bo (nI (tp)) ft (nI (wr0)) (nI (wa)) (nI (at0)) (nI (sp)) (nI (tk)) vl (nI (fi)) (nI (nm)) (nI (dp)) wy st (nI (aP)) (nI (aF)) (nI (aH)) (lN aO) (nI (ps)) (nI (mn)) go (nI (vi)) ∧ g1 115 = .inl (cy 1, 8, .inl (fun x9 => nI (P2 x9))) ∧ g1 116 = .inl (cy 1, 12, .inl (fun x9 => nI (OP2 x9))) ∧ g1 117 = .inl (cy 1, 12, .inl (fun x9 => nI (OF2 x9))) ∧ g1 118 = .inl (cy 1, 12, .inl (fun x9 => nI (OH2 x9))) ∧ g1 119 = .inl (cy 2, 12, .inr (.inl OO2)) ∧ (∀ j, j ≠ 114 → j ≠ 115 → j ≠ 116 → j ≠ 117 → j ≠ 118 → j ≠ 119 → g1 j = g j)) D ad N) [.ref (ad 114), .int (nI k0), .int y0, .int f0, .int (nI zn)].toArray s 0 0 (AA ad N)) (F0 m 71 ls []) := by
            intro fu
            induction fu with
            | zero => intro c9 F3 P3 OP3 OF3 OH3 OO3 hc9 hF3 hP3 hUR3 hn3 hor hms g_1 H locs h114_1 h115_1 h116_1 h117_1 h118_1 h119_1 hfr_1 hP hS ls hl; exact absurd hms (Nat.not_lt_zero _)
            | succ fu ih71 =>
              intro c9 F3 P3 OP3 OF3 OH3 OO3 hc9 hF3 hP3 hUR3 hn3 hor hms g_1 H locs h114_1 h115_1 h116_1 h117_1 h118_1 h119_1 hfr_1 hP hS ls hl
              have h142_1 : g_1 142 = .inl (cy 1, 4, .inl LN) := (hfr_1 142 (by omega) (by omega) (by omega) (by omega) (by omega) (by omega)).trans hLN
              have h143_1 : g_1 143 = .inl (cy 1, 4, .inl (fun x9 => nI (LE x9))) := (hfr_1 143 (by omega) (by omega) (by omega) (by omega) (by omega) (by omega)).trans hLE
              have h144_1 : g_1 144 = .inl (cy 1, 240, .inl CE) := (hfr_1 144 (by omega) (by omega) (by omega) (by omega) (by omega) (by omega)).trans hCE
              refine lv_iload hx hb dX10_scan_71 (lv_at hl 0 rfl) ?_
              refine lv_iload hx hb dX10_scan_73 (lv_at hl 5 rfl) ?_
              refine lv_icmp_ge (tgt := 188) hx hb dX10_scan_75 (by decide) (fun c_75 => ?_) (fun c_75 => ?_)
              · skip
                have c_75 := (nI_leI (by omega) (by omega)).mp c_75
                refine lv_iload hx hb dX10_scan_188 (lv_at hl 5 rfl) ?_
                have hE9 := hor.trans (scA_0 (by omega))
                have hnE := hn3
                exact rMi S hr hlk hP hS ⟨_, _, _, _, _, (by have hC := hC9; simp only [if_pos hC, nI_clamp hk031, nI_clamp hzn31]; rw [if_neg h1, if_pos h2, hE9]), (by have hC := hC9; simp only [if_pos hC, nI_clamp hk031, nI_clamp hzn31]; rw [if_neg h1, if_pos h2, hE9, ← hnE]; exact hP3), (by have hC := hC9; simp only [if_pos hC, nI_clamp hk031, nI_clamp hzn31]; rw [if_neg h1, if_pos h2, hE9]; exact hUR3), (by have hC := hC9; simp only [if_pos hC, nI_clamp hk031, nI_clamp hzn31]; rw [if_neg h1, if_pos h2, hE9, ← hnE]; exact h114_1), h115_1, h116_1, h117_1, h118_1, h119_1, hfr_1⟩ dX10_scan_190
              · skip
                have c_75 := (not_congr (nI_leI (by omega) (by omega))).mp c_75
                refine lv_iload_n hx hb dX10_scan_78 rfl (lv_at hl 4 rfl) ?_
                refine lv_i2l hx hb dX10_scan_79 rfl ?_
                refine lv_iconst (v := nI (2)) hx hb dX10_scan_80 (by decide) ?_
                refine lv_iload hx hb dX10_scan_81 (lv_at hl 0 rfl) ?_
                refine lv_imul hx hb dX10_scan_83 ?_
                refine tpi (pk_mul 2 c9) ?_
                refine lv_i2l hx hb dX10_scan_84 rfl ?_
                refine tpl (nI_l (by omega)) ?_
                refine lv_ladd hx hb dX10_scan_85 ?_
                refine lv_lstore (lv' := [(6, .long (f0.toInt64 + (lN (2 * c9)))), (5, .int (nI (c9))), (0, .ref (ad 114)), (1, .int (nI (k0))), (2, .int y0), (3, .int f0), (4, .int (nI (zn)))]) hx hb dX10_scan_86 hl (by decide) rfl (fun ls hl => ?_)
                refine lv_lload hx hb dX10_scan_88 (lv_at hl 0 rfl) ?_
                refine lv_lconst (v := lN 0) hx hb dX10_scan_90 (by decide) ?_
                refine lv_aload_n hx hb dX10_scan_91 rfl (lv_at hl 2 rfl) ?_
                refine mg S hK hP (by omega) h114_1 fd_X10_105 rfl dX10_scan_92 ?_
                refine lv_iload_n hx hb dX10_scan_95 rfl (lv_at hl 3 rfl) ?_
                refine mial S hK hP (by omega) h143_1 (vp_in_nI (by omega) (by omega)) dX10_scan_96 ?_
                refine tpi (congrArg ((fun x9 => nI (LE x9))) (nI_clamp (by omega))) ?_
                refine tpi (congrArg nI hq.2.1) ?_
                refine lv_iconst (v := nI (2)) hx hb dX10_scan_97 (by decide) ?_
                refine lv_isub hx hb dX10_scan_98 ?_
                refine lv_i2l hx hb dX10_scan_99 rfl ?_
                refine kSi (As := [.long (f0.toInt64 + (lN (2 * c9))), .long (lN 0), .long (((nI ((Sh k0).2)) - (nI (2))).toInt64)]) (rest := []) S hK hP (c_X10_in l D cy ad N g_1 (f0.toInt64 + (lN (2 * c9))) (lN 0) (((nI ((Sh k0).2)) - (nI (2))).toInt64)) cs_X10_115 ⟨rfl, rfl⟩ rfl hl.1 rfl (Nat.le_of_ble_eq_true rfl) ⟨Nat.zero_le _, Nat.zero_le _⟩ dX10_scan_100 (fun r_100 q_100 => ?_)
                subst q_100
                refine tpi (ifC (sc_in (by omega) hsz)) ?_
                refine lv_if_ne (tgt := 109) hx hb dX10_scan_103 (by decide) (fun c_103 => ?_) (fun c_103 => ?_)
                · skip
                  have c_103 := bz_ne.mp c_103
                  obtain ⟨j0, hj0, ej⟩ := isI_nat (by omega) c_103.1
                  have hj1 : j0 + 1 < (Sh k0).2 := by have q := c_103.2; rw [ej, nI_add] at q; exact (isI_nI (by omega) (by omega)).mp q
                  have eC1 : (f0 + nI (2 * c9)).toNatClampNeg = j0 := by rw [ej, nI_clamp (by omega)]
                  have eC2 : (f0 + nI (2 * c9) + nI 1).toNatClampNeg = j0 + 1 := by rw [ej, nI_add, nI_clamp (by omega)]
                  refine lv_bipush (v := nI (60)) hx hb dX10_scan_109 (by decide) ?_
                  refine lv_iload_n hx hb dX10_scan_111 rfl (lv_at hl 3 rfl) ?_
                  refine lv_imul hx hb dX10_scan_112 ?_
                  refine tpi (pk_mul 60 k0) ?_
                  refine lv_lload hx hb dX10_scan_113 (lv_at hl 0 rfl) ?_
                  refine lv_l2i hx hb dX10_scan_115 rfl ?_
                  refine tpi (sc_lo.trans ej) ?_
                  refine lv_iadd hx hb dX10_scan_116 ?_
                  refine tpi (nI_add (60 * k0) j0) ?_
                  refine lv_istore (lv' := [(8, .int (nI ((60 * k0) + j0))), (6, .long (f0.toInt64 + (lN (2 * c9)))), (5, .int (nI (c9))), (0, .ref (ad 114)), (1, .int (nI (k0))), (2, .int y0), (3, .int f0), (4, .int (nI (zn)))]) hx hb dX10_scan_117 hl (by decide) rfl (fun ls hl => ?_)
                  refine lv_aload_n hx hb dX10_scan_119 rfl (lv_at hl 3 rfl) ?_
                  refine mg S hK hP (by omega) h114_1 fd_X10_108 rfl dX10_scan_120 ?_
                  refine lv_iload hx hb dX10_scan_123 (lv_at hl 0 rfl) ?_
                  refine mial S hK hP (by omega) h144_1 (vp_in_nI (by omega) (by omega)) dX10_scan_125 ?_
                  refine tpi (congrArg CE (nI_clamp (by omega))) ?_
                  refine tpi (hq.2.2.2.2 j0 (by omega)) ?_
                  refine lv_aload_n hx hb dX10_scan_126 rfl (lv_at hl 3 rfl) ?_
                  refine mg S hK hP (by omega) h114_1 fd_X10_108 rfl dX10_scan_127 ?_
                  refine lv_iload hx hb dX10_scan_130 (lv_at hl 0 rfl) ?_
                  refine lv_iconst (v := nI (1)) hx hb dX10_scan_132 (by decide) ?_
                  refine lv_iadd hx hb dX10_scan_133 ?_
                  refine tpi (nI_add ((60 * k0) + j0) 1) ?_
                  refine mial S hK hP (by omega) h144_1 (vp_in_nI (by omega) (by omega)) dX10_scan_134 ?_
                  refine tpi (congrArg CE (nI_clamp (by omega))) ?_
                  refine tpi (hq.2.2.2.2 (j0 + 1) (by omega)) ?_
                  refine lv_aload_n hx hb dX10_scan_135 rfl (lv_at hl 3 rfl) ?_
                  refine mg S hK hP (by omega) h114_1 fd_X10_7 rfl dX10_scan_136 ?_
                  refine kSi (As := [.int (SK k0 j0), .int (SK k0 (j0 + 1)), .int (nI (wn F3.1))]) (rest := []) S hK hP (c_X10_isAct l D cy ad N g_1 (SK k0 j0) (SK k0 (j0 + 1)) (wn F3.1) hF3.1.1.1 hF3.1.1.2) cs_X10_165 ⟨rfl, rfl⟩ rfl hl.1 rfl (Nat.le_of_ble_eq_true rfl) ⟨Nat.zero_le _, Nat.zero_le _⟩ dX10_scan_139 (fun r_139 q_139 => ?_)
                  subst q_139
                  have J169 : ∀ (a9 : Int32) (F4 : FS) (P4 OP4 OF4 OH4 : Nat → Nat) (OO4 : Nat → Int64), (attF (SK k0 j0) (SK k0 (j0 + 1)) F3 = (a9, F4)) → (FOK F4) → (∀ j, j < wn F4.1 → P4 j = wp F4.1 j) → (UR F4 OP4 OF4 OH4 OO4) → (wn F4.1 = wn F3.1) → ∀ (g_2 : Nat → va_E) (H : Heap) (locs : List Loc), g_2 114 = mob ad (nI (wn F4.1)) (nI (wf F4.1)) (nI (wh F4.1)) (lN (wo F4.1)) (nI (F4.2.2.2)) la bo (nI (tp)) ft (nI (wr0)) (nI (wa)) (nI (at0)) (nI (sp)) (nI (tk)) vl (nI (fi)) (nI (nm)) (nI (dp)) wy st (nI (aP)) (nI (aF)) (nI (aH)) (lN aO) (nI (ps)) (nI (mn)) go (nI (vi)) → g_2 115 = .inl (cy 1, 8, .inl (fun x9 => nI (P4 x9))) → g_2 116 = .inl (cy 1, 12, .inl (fun x9 => nI (OP4 x9))) → g_2 117 = .inl (cy 1, 12, .inl (fun x9 => nI (OF4 x9))) → g_2 118 = .inl (cy 1, 12, .inl (fun x9 => nI (OH4 x9))) → g_2 119 = .inl (cy 2, 12, .inr (.inl OO4)) → (∀ j : Nat, j ≠ 114 → j ≠ 115 → j ≠ 116 → j ≠ 117 → j ≠ 118 → j ≠ 119 → g_2 j = g j) → MM D ad N g_2 H → va_S (AA ad N) s.heap H locs → ∀ (ls : Array Slot), lv_has ls 10 [(5, .int (nI (c9))), (0, .ref (ad 114)), (1, .int (nI (k0))), (2, .int y0), (3, .int f0), (4, .int (nI (zn)))] → W p l e (rmF 5 129) s m [.ref (ad 114), .int (nI k0), .int y0, .int f0, .int (nI zn)].toArray below meth c H locs 0 0 (MQ below (QI (fun r g1 => ∃ (P2 : Nat → Nat), ∃ (OP2 : Nat → Nat), ∃ (OF2 : Nat → Nat), ∃ (OH2 : Nat → Nat), ∃ (OO2 : Nat → Int64), (r = (if (isI (nI k0) 4 ∧ isI y0 3 ∧ isI (nI zn) 31) then (if (Sh (nI k0).toNatClampNeg).1 = -1 then (-11, F) else if (Sh (nI k0).toNatClampNeg).1 = y0 then scA (SK (nI k0).toNatClampNeg) (Sh (nI k0).toNatClampNeg).2 f0 (nI zn).toNatClampNeg (nI zn).toNatClampNeg F 0 else (-13, F)) else (-1, F)).1) ∧ (∀ i, i < wn F.1 → P2 i = wp (if (isI (nI k0) 4 ∧ isI y0 3 ∧ isI (nI zn) 31) then (if (Sh (nI k0).toNatClampNeg).1 = -1 then (-11, F) else if (Sh (nI k0).toNatClampNeg).1 = y0 then scA (SK (nI k0).toNatClampNeg) (Sh (nI k0).toNatClampNeg).2 f0 (nI zn).toNatClampNeg (nI zn).toNatClampNeg F 0 else (-13, F)) else (-1, F)).2.1 i) ∧ (UR (if (isI (nI k0) 4 ∧ isI y0 3 ∧ isI (nI zn) 31) then (if (Sh (nI k0).toNatClampNeg).1 = -1 then (-11, F) else if (Sh (nI k0).toNatClampNeg).1 = y0 then scA (SK (nI k0).toNatClampNeg) (Sh (nI k0).toNatClampNeg).2 f0 (nI zn).toNatClampNeg (nI zn).toNatClampNeg F 0 else (-13, F)) else (-1, F)).2 OP2 OF2 OH2 OO2) ∧ g1 114 = mob ad (nI (wn F.1)) (nI (wf (if (isI (nI k0) 4 ∧ isI y0 3 ∧ isI (nI zn) 31) then (if (Sh (nI k0).toNatClampNeg).1 = -1 then (-11, F) else if (Sh (nI k0).toNatClampNeg).1 = y0 then scA (SK (nI k0).toNatClampNeg) (Sh (nI k0).toNatClampNeg).2 f0 (nI zn).toNatClampNeg (nI zn).toNatClampNeg F 0 else (-13, F)) else (-1, F)).2.1)) (nI (wh (if (isI (nI k0) 4 ∧ isI y0 3 ∧ isI (nI zn) 31) then (if (Sh (nI k0).toNatClampNeg).1 = -1 then (-11, F) else if (Sh (nI k0).toNatClampNeg).1 = y0 then scA (SK (nI k0).toNatClampNeg) (Sh (nI k0).toNatClampNeg).2 f0 (nI zn).toNatClampNeg (nI zn).toNatClampNeg F 0 else (-13, F)) else (-1, F)).2.1)) (lN (wo (if (isI (nI k0) 4 ∧ isI y0 3 ∧ isI (nI zn) 31) then (if (Sh (nI k0).toNatClampNeg).1 = -1 then (-11, F) else if (Sh (nI k0).toNatClampNeg).1 = y0 then scA (SK (nI k0).toNatClampNeg) (Sh (nI k0).toNatClampNeg).2 f0 (nI zn).toNatClampNeg (nI zn).toNatClampNeg F 0 else (-13, F)) else (-1, F)).2.1)) (nI ((if (isI (nI k0) 4 ∧ isI y0 3 ∧ isI (nI zn) 31) then (if (Sh (nI k0).toNatClampNeg).1 = -1 then (-11, F) else if (Sh (nI k0).toNatClampNeg).1 = y0 then scA (SK (nI k0).toNatClampNeg) (Sh (nI k0).toNatClampNeg).2 f0 (nI zn).toNatClampNeg (nI zn).toNatClampNeg F 0 else (-13, F)) else (-1, F)).2.2.2.2)) la bo (nI (tp)) ft (nI (wr0)) (nI (wa)) (nI (at0)) (nI (sp)) (nI (tk)) vl (nI (fi)) (nI (nm)) (nI (dp)) wy st (nI (aP)) (nI (aF)) (nI (aH)) (lN aO) (nI (ps)) (nI (mn)) go (nI (vi)) ∧ g1 115 = .inl (cy 1, 8, .inl (fun x9 => nI (P2 x9))) ∧ g1 116 = .inl (cy 1, 12, .inl (fun x9 => nI (OP2 x9))) ∧ g1 117 = .inl (cy 1, 12, .inl (fun x9 => nI (OF2 x9))) ∧ g1 118 = .inl (cy 1, 12, .inl (fun x9 => nI (OH2 x9))) ∧ g1 119 = .inl (cy 2, 12, .inr (.inl OO2)) ∧ (∀ j, j ≠ 114 → j ≠ 115 → j ≠ 116 → j ≠ 117 → j ≠ 118 → j ≠ 119 → g1 j = g j)) D ad N) [.ref (ad 114), .int (nI k0), .int y0, .int f0, .int (nI zn)].toArray s 0 0 (AA ad N)) (F0 m 169 ls [.int a9]) := by
                    intro a9 F4 P4 OP4 OF4 OH4 OO4 hA9 hF4 hP4 hUR4 hn4 g_2 H locs h114_2 h115_2 h116_2 h117_2 h118_2 h119_2 hfr_2 hP hS ls hl
                    have h142_2 : g_2 142 = .inl (cy 1, 4, .inl LN) := (hfr_2 142 (by omega) (by omega) (by omega) (by omega) (by omega) (by omega)).trans hLN
                    have h143_2 : g_2 143 = .inl (cy 1, 4, .inl (fun x9 => nI (LE x9))) := (hfr_2 143 (by omega) (by omega) (by omega) (by omega) (by omega) (by omega)).trans hLE
                    have h144_2 : g_2 144 = .inl (cy 1, 240, .inl CE) := (hfr_2 144 (by omega) (by omega) (by omega) (by omega) (by omega) (by omega)).trans hCE
                    refine lv_istore (lv' := [(9, .int a9), (5, .int (nI (c9))), (0, .ref (ad 114)), (1, .int (nI (k0))), (2, .int y0), (3, .int f0), (4, .int (nI (zn)))]) hx hb dX10_scan_169 hl (by decide) rfl (fun ls hl => ?_)
                    refine lv_iload hx hb dX10_scan_171 (lv_at hl 0 rfl) ?_
                    have hv9 := at_v hF3 hA9
                    refine lv_if_ge (tgt := 182) hx hb dX10_scan_173 (by decide) (fun c_173 => ?_) (fun c_173 => ?_)
                    · skip
                      have a91 : a9 = 1 := Decidable.not_not.mp (fun q => absurd (hv9.2.mpr q) (Int32.not_lt.mpr c_173))
                      refine lv_iinc (v := nI (c9 + 1)) (lv' := [(5, .int (nI (c9 + 1))), (9, .int a9), (0, .ref (ad 114)), (1, .int (nI (k0))), (2, .int y0), (3, .int f0), (4, .int (nI (zn)))]) hx hb dX10_scan_182 hl (k := 1) rfl (by exact nI_add c9 1) (by decide) rfl (fun ls hl => ?_)
                      refine lv_goto (tgt := 71) hx hb dX10_scan_185 (by decide) ?_
                      exact ih71 (c9 + 1) F4 P4 OP4 OF4 OH4 OO4 (by omega) hF4 hP4 hUR4 (hn4.trans hn3) (hor.trans (by rw [scA_g (by omega) c_103 (by rw [eC1, eC2, hA9]; exact a91), eC1, eC2, hA9])) (by omega) g_2 _ _ h114_2 h115_2 h116_2 h117_2 h118_2 h119_2 hfr_2 hP hS _ (lv_sub hl [0, 2, 3, 4, 5, 6] rfl)
                    · skip
                      refine lv_bipush (v := (-20)) hx hb dX10_scan_176 (by decide) ?_
                      refine lv_iload hx hb dX10_scan_178 (lv_at hl 0 rfl) ?_
                      refine lv_iadd hx hb dX10_scan_180 ?_
                      have a9n : ¬ a9 = 1 := hv9.2.mp (Int32.not_le.mp c_173)
                      have hE9 := hor.trans (scA_s (by omega) c_103 (by rw [eC1, eC2, hA9]; exact a9n))
                      rw [eC1, eC2, hA9] at hE9
                      have hnE := hn4.trans hn3
                      exact rMi S hr hlk hP hS ⟨_, _, _, _, _, (by have hC := hC9; simp only [if_pos hC, nI_clamp hk031, nI_clamp hzn31]; rw [if_neg h1, if_pos h2, hE9]; first | done | rfl), (by have hC := hC9; simp only [if_pos hC, nI_clamp hk031, nI_clamp hzn31]; rw [if_neg h1, if_pos h2, hE9, ← hnE]; exact hP4), (by have hC := hC9; simp only [if_pos hC, nI_clamp hk031, nI_clamp hzn31]; rw [if_neg h1, if_pos h2, hE9]; exact hUR4), (by have hC := hC9; simp only [if_pos hC, nI_clamp hk031, nI_clamp hzn31]; rw [if_neg h1, if_pos h2, hE9, ← hnE]; exact h114_2), h115_2, h116_2, h117_2, h118_2, h119_2, hfr_2⟩ dX10_scan_181
                  refine lv_if_eq (tgt := 168) hx hb dX10_scan_142 (by decide) (fun c_142 => ?_) (fun c_142 => ?_)
                  · skip
                    have c_142 := bz_eq.mp c_142
                    have hno : ¬ isA (wn F3.1) (SK k0 j0) (SK k0 (j0 + 1)) := c_142
                    have e1 : (attF (SK k0 j0) (SK k0 (j0 + 1)) F3).1 = -1 := congrArg Prod.fst (chg_no hno)
                    have eF : (attF (SK k0 j0) (SK k0 (j0 + 1)) F3).2.1 = F3.1 := congrArg Prod.snd (chg_no hno)
                    have eN : ¬ (attF (SK k0 j0) (SK k0 (j0 + 1)) F3).1 = 1 := by rw [e1]; decide
                    have eu : (attF (SK k0 j0) (SK k0 (j0 + 1)) F3).2.2.2.2 = F3.2.2.2 := if_neg eN
                    refine lv_iconst (v := (-1)) hx hb dX10_scan_168 (by decide) ?_
                    exact J169 (-1) ((attF (SK k0 j0) (SK k0 (j0 + 1)) F3).2) P3 OP3 OF3 OH3 OO3 (by rw [← e1]) (attF_ok hF3).1 (by rw [eF]; exact hP3) (UR_n hF3 hUR3 eN) (attF_ok hF3).2 g_1 _ _ (by rw [eF, eu]; exact h114_1) h115_1 h116_1 h117_1 h118_1 h119_1 hfr_1 hP hS _ (lv_sub hl [2, 3, 4, 5, 6, 7] rfl)
                  · skip
                    have c_142 := bz_ne.mp c_142
                    obtain ⟨S0, K0, hS5, hKb, eS, eK⟩ := isA_nat (n := wn F3.1) (s := SK k0 j0) (k := SK k0 (j0 + 1)) hF3.1.1.2 c_142
                    have hK8 : K0 < 8 := by have := hF3.1.1.2; split at hKb <;> omega
                    have eA : atR F3 S0 K0 = attF (SK k0 j0) (SK k0 (j0 + 1)) F3 := by rw [atR_c (by omega), eS, eK]
                    refine lv_aload_n hx hb dX10_scan_145 rfl (lv_at hl 3 rfl) ?_
                    refine lv_aload_n hx hb dX10_scan_146 rfl (lv_at hl 3 rfl) ?_
                    refine mg S hK hP (by omega) h114_1 fd_X10_108 rfl dX10_scan_147 ?_
                    refine lv_iload hx hb dX10_scan_150 (lv_at hl 0 rfl) ?_
                    refine mial S hK hP (by omega) h144_1 (vp_in_nI (by omega) (by omega)) dX10_scan_152 ?_
                    refine tpi (congrArg CE (nI_clamp (by omega))) ?_
                    refine tpi ((hq.2.2.2.2 j0 (by omega)).trans eS) ?_
                    refine lv_aload_n hx hb dX10_scan_153 rfl (lv_at hl 3 rfl) ?_
                    refine mg S hK hP (by omega) h114_1 fd_X10_108 rfl dX10_scan_154 ?_
                    refine lv_iload hx hb dX10_scan_157 (lv_at hl 0 rfl) ?_
                    refine lv_iconst (v := nI (1)) hx hb dX10_scan_159 (by decide) ?_
                    refine lv_iadd hx hb dX10_scan_160 ?_
                    refine tpi (nI_add ((60 * k0) + j0) 1) ?_
                    refine mial S hK hP (by omega) h144_1 (vp_in_nI (by omega) (by omega)) dX10_scan_161 ?_
                    refine tpi (congrArg CE (nI_clamp (by omega))) ?_
                    refine tpi ((hq.2.2.2.2 (j0 + 1) (by omega)).trans eK) ?_
                    refine kMi (As := [.int (nI (S0)), .int (nI (K0))]) (rest := []) S hK hP hS (fun _ h => h) (c_X10_doesAct l D cy ad N g_1 hinj (by omega) F3 la bo tp ft wr0 wa at0 sp tk vl fi nm dp wy st aP aF aH aO ps mn go vi h114_1 P3 h115_1 hF3 hP3 OP3 h116_1 OF3 h117_1 OH3 h118_1 OO3 h119_1 hUR3 S0 (by omega) K0 hK8) cv_X10_186 (by omega) h114_1 ⟨_, _, rfl⟩ ⟨rfl, rfl⟩ rfl hl.1 rfl (Nat.le_of_ble_eq_true rfl) ⟨Nat.zero_le _, Nat.zero_le _⟩ dX10_scan_162 (fun r_162 g_3 H locs q_3 hP hS => ?_)
                    obtain ⟨P2_3, OP2_3, OF2_3, OH2_3, OO2_3, q_162, hP2_3, hUR2_3, h114_3, h115_3, h116_3, h117_3, h118_3, h119_3, f_3⟩ := q_3
                    subst q_162
                    have h142_3 : g_3 142 = .inl (cy 1, 4, .inl LN) := (f_3 142 (by omega) (by omega) (by omega) (by omega) (by omega) (by omega)).trans h142_1
                    have h143_3 : g_3 143 = .inl (cy 1, 4, .inl (fun x9 => nI (LE x9))) := (f_3 143 (by omega) (by omega) (by omega) (by omega) (by omega) (by omega)).trans h143_1
                    have h144_3 : g_3 144 = .inl (cy 1, 240, .inl CE) := (f_3 144 (by omega) (by omega) (by omega) (by omega) (by omega) (by omega)).trans h144_1
                    have hfr_3 : ∀ j : Nat, j ≠ 114 → j ≠ 115 → j ≠ 116 → j ≠ 117 → j ≠ 118 → j ≠ 119 → g_3 j = g j := fun j n0 n1 n2 n3 n4 n5 => (f_3 j n0 n1 n2 n3 n4 n5).trans (hfr_1 j n0 n1 n2 n3 n4 n5)
                    refine lv_goto (tgt := 169) hx hb dX10_scan_165 (by decide) ?_
                    exact J169 ((atR F3 S0 K0).1) ((atR F3 S0 K0).2) P2_3 OP2_3 OF2_3 OH2_3 OO2_3 eA.symm (atR_ok hF3).1 (by rw [(atR_ok (S := S0) (K := K0) hF3).2]; exact hP2_3) hUR2_3 (atR_ok hF3).2 g_3 _ _ (by rw [(atR_ok (S := S0) (K := K0) hF3).2]; exact h114_3) h115_3 h116_3 h117_3 h118_3 h119_3 hfr_3 hP hS _ (lv_sub hl [2, 3, 4, 5, 6, 7] rfl)
                · skip
                  have c_103 := bz_eq.mp c_103
                  refine lv_bipush (v := (-12)) hx hb dX10_scan_106 (by decide) ?_
                  have hE9 := hor.trans (scA_b (by omega) c_103)
                  have hnE := hn3
                  exact rMi S hr hlk hP hS ⟨_, _, _, _, _, (by have hC := hC9; simp only [if_pos hC, nI_clamp hk031, nI_clamp hzn31]; rw [if_neg h1, if_pos h2, hE9]), (by have hC := hC9; simp only [if_pos hC, nI_clamp hk031, nI_clamp hzn31]; rw [if_neg h1, if_pos h2, hE9, ← hnE]; exact hP3), (by have hC := hC9; simp only [if_pos hC, nI_clamp hk031, nI_clamp hzn31]; rw [if_neg h1, if_pos h2, hE9]; exact hUR3), (by have hC := hC9; simp only [if_pos hC, nI_clamp hk031, nI_clamp hzn31]; rw [if_neg h1, if_pos h2, hE9, ← hnE]; exact h114_1), h115_1, h116_1, h117_1, h118_1, h119_1, hfr_1⟩ dX10_scan_108
          exact L71 ((zn - 0) + 1) 0 F P OP OF OH OO (by omega) hF hPw hUR rfl rfl (Nat.lt_succ_self _) g _ _ hM hP9 hO1 hO2 hO3 hO4 (fun j n0 n1 n2 n3 n4 n5 => hfr j ) hP hS _ (lv_sub hl [0, 1, 2, 3, 4, 5] rfl)
        · skip
          have h2 : ¬ (Sh k0).1 = y0 := fun q => c_46 ((lo_e hq.2.2.1 c_21).mpr q)
          refine lv_aload_n hx hb dX10_scan_49 rfl (lv_at hl 0 rfl) ?_
          refine mg S hK hP (by omega) hM fd_X10_102 rfl dX10_scan_50 ?_
          refine lv_iload_n hx hb dX10_scan_53 rfl (lv_at hl 1 rfl) ?_
          refine mial S hK hP (by omega) hLN (vp_in_nI (by omega) (by omega)) dX10_scan_54 ?_
          refine tpi (congrArg LN (nI_clamp (by omega))) ?_
          refine tpi (hq.1) ?_
          refine lv_bipush (v := (-4)) hx hb dX10_scan_55 (by decide) ?_
          refine lv_icmp_ne (tgt := 65) hx hb dX10_scan_57 (by decide) (fun c_57 => ?_) (fun c_57 => ?_)
          · skip
            have h1 : ¬ (Sh k0).1 = -1 := fun q => c_57 ((lo_1 hq.2.2.1).mpr q)
            refine lv_bipush (v := (-13)) hx hb dX10_scan_65 (by decide) ?_
            exact rMi S hr hlk hP hS ⟨_, _, _, _, _, (by simp only [if_pos hC9, nI_clamp hk031, nI_clamp hzn31]; first | rw [if_pos h1] | rw [if_neg h1, if_neg h2]), (by simp only [if_pos hC9, nI_clamp hk031, nI_clamp hzn31]; first | (rw [if_pos h1]; exact hPw) | (rw [if_neg h1, if_neg h2]; exact hPw)), (by simp only [if_pos hC9, nI_clamp hk031, nI_clamp hzn31]; first | (rw [if_pos h1]; exact hUR) | (rw [if_neg h1, if_neg h2]; exact hUR)), (by simp only [if_pos hC9, nI_clamp hk031, nI_clamp hzn31]; first | (rw [if_pos h1]; exact hM) | (rw [if_neg h1, if_neg h2]; exact hM)), hP9, hO1, hO2, hO3, hO4, (fun j n0 n1 n2 n3 n4 n5 => hfr j )⟩ dX10_scan_67
          · skip
            have h1 := (lo_1 hq.2.2.1).mp c_57
            refine lv_bipush (v := (-11)) hx hb dX10_scan_60 (by decide) ?_
            refine lv_goto (tgt := 67) hx hb dX10_scan_62 (by decide) ?_
            exact rMi S hr hlk hP hS ⟨_, _, _, _, _, (by simp only [if_pos hC9, nI_clamp hk031, nI_clamp hzn31]; first | rw [if_pos h1] | rw [if_neg h1, if_neg h2]), (by simp only [if_pos hC9, nI_clamp hk031, nI_clamp hzn31]; first | (rw [if_pos h1]; exact hPw) | (rw [if_neg h1, if_neg h2]; exact hPw)), (by simp only [if_pos hC9, nI_clamp hk031, nI_clamp hzn31]; first | (rw [if_pos h1]; exact hUR) | (rw [if_neg h1, if_neg h2]; exact hUR)), (by simp only [if_pos hC9, nI_clamp hk031, nI_clamp hzn31]; first | (rw [if_pos h1]; exact hM) | (rw [if_neg h1, if_neg h2]; exact hM)), hP9, hO1, hO2, hO3, hO4, (fun j n0 n1 n2 n3 n4 n5 => hfr j )⟩ dX10_scan_67
      · skip
        have c_34 := bz_eq.mp c_34
        have hC9 : ¬ (isI (nI k0) 4 ∧ isI y0 3 ∧ isI z0 31) := fun q => c_34 q.2.2
        refine lv_iconst (v := (-1)) hx hb dX10_scan_37 (by decide) ?_
        exact rMi S hr hlk hP hS ⟨_, _, _, _, _, (by simp only [if_neg hC9]), (by simp only [if_neg hC9]; exact hPw), (by simp only [if_neg hC9]; exact hUR), (by simp only [if_neg hC9]; exact hM), hP9, hO1, hO2, hO3, hO4, (fun j n0 n1 n2 n3 n4 n5 => hfr j )⟩ dX10_scan_38

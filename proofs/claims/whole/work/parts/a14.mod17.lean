set_option maxHeartbeats 4000000 in
set_option maxRecDepth 100000 in
theorem c_X10_byteAt (l : Launch) (D : va_G) (cy : Nat → ClassId) (ad : Nat → Nat) (N : Nat) (g : Nat → va_E) (hN : 145 ≤ N) (n : Nat) (fa : Nat) (he : Nat) (ov : Nat) (un : Nat) (la : Int32) (bo : Int32) (tp : Nat) (ft : Int32) (wr0 : Nat) (wa : Nat) (at0 : Nat) (sp : Nat) (tk : Nat) (vl : Int32) (fi : Nat) (nm : Nat) (dp : Nat) (wy : Int32) (st : Int32) (aP : Nat) (aF : Nat) (aH : Nat) (aO : Nat) (ps : Nat) (mn : Nat) (go : Int32) (vi : Nat) (hM : g 114 = mob ad (nI (n)) (nI (fa)) (nI (he)) (lN ov) (nI (un)) la bo (nI (tp)) ft (nI (wr0)) (nI (wa)) (nI (at0)) (nI (sp)) (nI (tk)) vl (nI (fi)) (nI (nm)) (nI (dp)) wy st (nI (aP)) (nI (aF)) (nI (aH)) (lN aO) (nI (ps)) (nI (mn)) go (nI (vi))) (TP : Nat → Nat) (hTP : g 121 = .inl (cy 1, 160, .inl (fun x9 => nI (TP x9)))) (htp : tp ≤ 160) (p0 : Nat) (hp0 : p0 < 2 ^ 30) : Met l yX10_byteAt (WS yX10_byteAt cX10_byteAt 2 (some .int)) (rmF 0 0) (PP [.ref (ad 114), .int (nI (p0))] D cy ad N g) (vp_Si (fun r => r = byM TP tp p0)) 0 0 (fun _ => False) := by
  refine mentry (by decide) (Nat.le_of_ble_eq_true rfl) (fun p e s m below meth c ls S hr hlk hnm hP hK hl => ?_)
  have S : CallFix p m c cX10_byteAt 2 s _ wsL_law RX10 := S
  have hx := S.1
  have hb := S.2.1
  have hl : lv_has ls 2 [(0, .ref (ad 114)), (1, .int (nI (p0)))] := hl
  refine lv_iload_n hx hb dX10_byteAt_0 rfl (lv_at hl 1 rfl) ?_
  refine lv_aload_n hx hb dX10_byteAt_1 rfl (lv_at hl 0 rfl) ?_
  refine mg S hK hP (by omega) hM fd_X10_222 rfl dX10_byteAt_2 ?_
  refine lv_icmp_ge (tgt := 17) hx hb dX10_byteAt_5 (by decide) (fun c_5 => ?_) (fun c_5 => ?_)
  · skip
    have c_5 := (nI_leI (by omega) (by omega)).mp c_5
    refine lv_bipush (v := (-4)) hx hb dX10_byteAt_17 (by decide) ?_
    exact rSi S hr hlk (if_neg (show ¬ p0 < tp by omega)).symm dX10_byteAt_19
  · skip
    have c_5 := (not_congr (nI_leI (by omega) (by omega))).mp c_5
    refine lv_aload_n hx hb dX10_byteAt_8 rfl (lv_at hl 0 rfl) ?_
    refine mg S hK hP (by omega) hM fd_X10_39 rfl dX10_byteAt_9 ?_
    refine lv_iload_n hx hb dX10_byteAt_12 rfl (lv_at hl 1 rfl) ?_
    refine mial S hK hP (by omega) hTP (vp_in_nI (by omega) (by omega)) dX10_byteAt_13 ?_
    refine tpi (congrArg ((fun x9 => nI (TP x9))) (nI_clamp (by omega))) ?_
    refine lv_goto (tgt := 19) hx hb dX10_byteAt_14 (by decide) ?_
    exact rSi S hr hlk (if_pos (show p0 < tp by omega)).symm dX10_byteAt_19
set_option maxHeartbeats 4000000 in
set_option maxRecDepth 100000 in
theorem c_X10_fails (l : Launch) (D : va_G) (cy : Nat → ClassId) (ad : Nat → Nat) (N : Nat) (g : Nat → va_E) (hinj : ∀ i j : Nat, i < N → j < N → ad i = ad j → i = j) (hN : 145 ≤ N) (n : Nat) (fa : Nat) (he : Nat) (ov : Nat) (un : Nat) (la : Int32) (bo : Int32) (tp : Nat) (ft : Int32) (wr0 : Nat) (wa : Nat) (at0 : Nat) (sp : Nat) (tk : Nat) (vl : Int32) (fi : Nat) (nm : Nat) (dp : Nat) (wy : Int32) (st : Int32) (aP : Nat) (aF : Nat) (aH : Nat) (aO : Nat) (ps : Nat) (mn : Nat) (go : Int32) (vi : Nat) (hM : g 114 = mob ad (nI (n)) (nI (fa)) (nI (he)) (lN ov) (nI (un)) la bo (nI (tp)) ft (nI (wr0)) (nI (wa)) (nI (at0)) (nI (sp)) (nI (tk)) vl (nI (fi)) (nI (nm)) (nI (dp)) wy st (nI (aP)) (nI (aF)) (nI (aH)) (lN aO) (nI (ps)) (nI (mn)) go (nI (vi))) (hwr0 : wr0 < 2 ^ 31) (c0 : Nat) : Met l yX10_fails (WS yX10_fails cX10_fails 2 none) (rmF 0 0) (PP [.ref (ad 114), .int (nI (c0))] D cy ad N g) (QV (fun g1 => g1 114 = mob ad (nI (n)) (nI (fa)) (nI (he)) (lN ov) (nI (un)) la bo (nI (tp)) ft (nI (if wr0 = 0 then c0 else wr0)) (nI (if wr0 = 0 then sp else wa)) (nI (at0)) (nI (sp)) (nI (tk)) vl (nI (fi)) (nI (nm)) (nI (dp)) wy st (nI (aP)) (nI (aF)) (nI (aH)) (lN aO) (nI (ps)) (nI (mn)) go (nI (vi)) ∧ (∀ j, j ≠ 114 → g1 j = g j)) D ad N) 0 0 (AA ad N) := by
  refine mentry (by decide) (Nat.le_of_ble_eq_true rfl) (fun p e s m below meth c ls S hr hlk hnm hP hK hl => ?_)
  have S : CallFix p m c cX10_fails 2 s _ wsL_law RX10 := S
  have hx := S.1
  have hb := S.2.1
  have hl : lv_has ls 2 [(0, .ref (ad 114)), (1, .int (nI (c0)))] := hl
  have hI : MD (AA ad N) ad N := MD.in hinj
  have hS : va_S (AA ad N) s.heap s.heap [] := va_S.rf
  have hfr : ∀ j : Nat, g j = g j := fun _ => rfl
  refine lv_aload_n hx hb dX10_fails_0 rfl (lv_at hl 0 rfl) ?_
  refine mg S hK hP (by omega) hM fd_X10_225 rfl dX10_fails_1 ?_
  refine lv_if_ne (tgt := 20) hx hb dX10_fails_4 (by decide) (fun c_4 => ?_) (fun c_4 => ?_)
  · skip
    have c_4 := (not_congr (z_eq (by omega))).mp c_4
    exact rMv S hr hlk hP hS ⟨(by rw [if_neg c_4, if_neg c_4]; exact hM), (fun j n0 => hfr j )⟩ dX10_fails_20
  · skip
    have c_4 := (z_eq (by omega)).mp c_4
    refine lv_aload_n hx hb dX10_fails_7 rfl (lv_at hl 0 rfl) ?_
    refine lv_iload_n hx hb dX10_fails_8 rfl (lv_at hl 1 rfl) ?_
    refine mp S hK hP hI hS (by omega) hM fd_X10_225 rfl rfl (Nat.le_of_ble_eq_true rfl) dX10_fails_9 (fun g_1 H locs eg_1 hP hS => ?_)
    have h114_1 : g_1 114 = mob ad (nI (n)) (nI (fa)) (nI (he)) (lN ov) (nI (un)) la bo (nI (tp)) ft (nI (c0)) (nI (wa)) (nI (at0)) (nI (sp)) (nI (tk)) vl (nI (fi)) (nI (nm)) (nI (dp)) wy st (nI (aP)) (nI (aF)) (nI (aH)) (lN aO) (nI (ps)) (nI (mn)) go (nI (vi)) := by rw [eg_1, va_up_self]; exact rfl
    have hfr_1 : ∀ j : Nat, j ≠ 114 → g_1 j = g j := fun j n0 => ((congrFun eg_1 _).trans (va_up_ne _ _ n0)).trans (hfr j )
    refine lv_aload_n hx hb dX10_fails_12 rfl (lv_at hl 0 rfl) ?_
    refine lv_aload_n hx hb dX10_fails_13 rfl (lv_at hl 0 rfl) ?_
    refine mg S hK hP (by omega) h114_1 fd_X10_228 rfl dX10_fails_14 ?_
    refine mp S hK hP hI hS (by omega) h114_1 fd_X10_231 rfl rfl (Nat.le_of_ble_eq_true rfl) dX10_fails_17 (fun g_2 H locs eg_2 hP hS => ?_)
    have h114_2 : g_2 114 = mob ad (nI (n)) (nI (fa)) (nI (he)) (lN ov) (nI (un)) la bo (nI (tp)) ft (nI (c0)) (nI (sp)) (nI (at0)) (nI (sp)) (nI (tk)) vl (nI (fi)) (nI (nm)) (nI (dp)) wy st (nI (aP)) (nI (aF)) (nI (aH)) (lN aO) (nI (ps)) (nI (mn)) go (nI (vi)) := by rw [eg_2, va_up_self]; exact rfl
    have hfr_2 : ∀ j : Nat, j ≠ 114 → g_2 j = g j := fun j n0 => ((congrFun eg_2 _).trans (va_up_ne _ _ n0)).trans (hfr_1 j n0)
    exact rMv S hr hlk hP hS ⟨(by rw [if_pos c_4, if_pos c_4]; exact h114_2), hfr_2⟩ dX10_fails_20
set_option maxHeartbeats 4000000 in
set_option maxRecDepth 100000 in
theorem c_X10_letterOf (l : Launch) (D : va_G) (cy : Nat → ClassId) (ad : Nat → Nat) (N : Nat) (g : Nat → va_E) (c0 : Nat) (hc0 : c0 < 256) : Met l yX10_letterOf (WS yX10_letterOf cX10_letterOf 1 (some .int)) (rmF 0 0) (PP [.int (nI (c0))] D cy ad N g) (vp_Si (fun r => r = if ixL c0 < 7 then nI (ixL c0) else -4)) 0 0 (fun _ => False) := by
  refine mentry (by decide) (Nat.le_of_ble_eq_true rfl) (fun p e s m below meth c ls S hr hlk hnm hP hK hl => ?_)
  have S : CallFix p m c cX10_letterOf 1 s _ wsL_law RX10 := S
  have hx := S.1
  have hb := S.2.1
  have hl : lv_has ls 1 [(0, .int (nI (c0)))] := hl
  refine lv_iload_n hx hb dX10_letterOf_0 rfl (lv_at hl 0 rfl) ?_
  refine lv_bipush (v := nI (117)) hx hb dX10_letterOf_1 (by decide) ?_
  refine lv_icmp_ne (tgt := 10) hx hb dX10_letterOf_3 (by decide) (fun c_3 => ?_) (fun c_3 => ?_)
  · skip
    have c_3 := (not_congr (nI_eq (by omega) (by omega))).mp c_3
    refine lv_iload_n hx hb dX10_letterOf_10 rfl (lv_at hl 0 rfl) ?_
    refine lv_bipush (v := nI (111)) hx hb dX10_letterOf_11 (by decide) ?_
    refine lv_icmp_ne (tgt := 20) hx hb dX10_letterOf_13 (by decide) (fun c_13 => ?_) (fun c_13 => ?_)
    · skip
      have c_13 := (not_congr (nI_eq (by omega) (by omega))).mp c_13
      refine lv_iload_n hx hb dX10_letterOf_20 rfl (lv_at hl 0 rfl) ?_
      refine lv_bipush (v := nI (116)) hx hb dX10_letterOf_21 (by decide) ?_
      refine lv_icmp_ne (tgt := 30) hx hb dX10_letterOf_23 (by decide) (fun c_23 => ?_) (fun c_23 => ?_)
      · skip
        have c_23 := (not_congr (nI_eq (by omega) (by omega))).mp c_23
        refine lv_iload_n hx hb dX10_letterOf_30 rfl (lv_at hl 0 rfl) ?_
        refine lv_bipush (v := nI (114)) hx hb dX10_letterOf_31 (by decide) ?_
        refine lv_icmp_ne (tgt := 40) hx hb dX10_letterOf_33 (by decide) (fun c_33 => ?_) (fun c_33 => ?_)
        · skip
          have c_33 := (not_congr (nI_eq (by omega) (by omega))).mp c_33
          refine lv_iload_n hx hb dX10_letterOf_40 rfl (lv_at hl 0 rfl) ?_
          refine lv_bipush (v := nI (100)) hx hb dX10_letterOf_41 (by decide) ?_
          refine lv_icmp_ne (tgt := 50) hx hb dX10_letterOf_43 (by decide) (fun c_43 => ?_) (fun c_43 => ?_)
          · skip
            have c_43 := (not_congr (nI_eq (by omega) (by omega))).mp c_43
            refine lv_iload_n hx hb dX10_letterOf_50 rfl (lv_at hl 0 rfl) ?_
            refine lv_bipush (v := nI (107)) hx hb dX10_letterOf_51 (by decide) ?_
            refine lv_icmp_ne (tgt := 60) hx hb dX10_letterOf_53 (by decide) (fun c_53 => ?_) (fun c_53 => ?_)
            · skip
              have c_53 := (not_congr (nI_eq (by omega) (by omega))).mp c_53
              refine lv_iload_n hx hb dX10_letterOf_60 rfl (lv_at hl 0 rfl) ?_
              refine lv_bipush (v := nI (102)) hx hb dX10_letterOf_61 (by decide) ?_
              refine lv_icmp_ne (tgt := 71) hx hb dX10_letterOf_63 (by decide) (fun c_63 => ?_) (fun c_63 => ?_)
              · skip
                have c_63 := (not_congr (nI_eq (by omega) (by omega))).mp c_63
                refine lv_bipush (v := (-4)) hx hb dX10_letterOf_71 (by decide) ?_
                exact rSi S hr hlk (by have e : ixL c0 = 7 := (by unfold ixL; rw [if_neg c_3, if_neg c_13, if_neg c_23, if_neg c_33, if_neg c_43, if_neg c_53, if_neg c_63]); rw [if_neg (by omega)]) dX10_letterOf_73
              · skip
                have c_63 := (nI_eq (by omega) (by omega)).mp c_63
                refine lv_bipush (v := nI (6)) hx hb dX10_letterOf_66 (by decide) ?_
                refine lv_goto (tgt := 73) hx hb dX10_letterOf_68 (by decide) ?_
                exact rSi S hr hlk (by have e : ixL c0 = 6 := (by unfold ixL; rw [if_neg c_3, if_neg c_13, if_neg c_23, if_neg c_33, if_neg c_43, if_neg c_53, if_pos c_63]); rw [if_pos (by omega), e]) dX10_letterOf_73
            · skip
              have c_53 := (nI_eq (by omega) (by omega)).mp c_53
              refine lv_iconst (v := nI (5)) hx hb dX10_letterOf_56 (by decide) ?_
              refine lv_goto (tgt := 73) hx hb dX10_letterOf_57 (by decide) ?_
              exact rSi S hr hlk (by have e : ixL c0 = 5 := (by unfold ixL; rw [if_neg c_3, if_neg c_13, if_neg c_23, if_neg c_33, if_neg c_43, if_pos c_53]); rw [if_pos (by omega), e]) dX10_letterOf_73
          · skip
            have c_43 := (nI_eq (by omega) (by omega)).mp c_43
            refine lv_iconst (v := nI (4)) hx hb dX10_letterOf_46 (by decide) ?_
            refine lv_goto (tgt := 73) hx hb dX10_letterOf_47 (by decide) ?_
            exact rSi S hr hlk (by have e : ixL c0 = 4 := (by unfold ixL; rw [if_neg c_3, if_neg c_13, if_neg c_23, if_neg c_33, if_pos c_43]); rw [if_pos (by omega), e]) dX10_letterOf_73
        · skip
          have c_33 := (nI_eq (by omega) (by omega)).mp c_33
          refine lv_iconst (v := nI (3)) hx hb dX10_letterOf_36 (by decide) ?_
          refine lv_goto (tgt := 73) hx hb dX10_letterOf_37 (by decide) ?_
          exact rSi S hr hlk (by have e : ixL c0 = 3 := (by unfold ixL; rw [if_neg c_3, if_neg c_13, if_neg c_23, if_pos c_33]); rw [if_pos (by omega), e]) dX10_letterOf_73
      · skip
        have c_23 := (nI_eq (by omega) (by omega)).mp c_23
        refine lv_iconst (v := nI (2)) hx hb dX10_letterOf_26 (by decide) ?_
        refine lv_goto (tgt := 73) hx hb dX10_letterOf_27 (by decide) ?_
        exact rSi S hr hlk (by have e : ixL c0 = 2 := (by unfold ixL; rw [if_neg c_3, if_neg c_13, if_pos c_23]); rw [if_pos (by omega), e]) dX10_letterOf_73
    · skip
      have c_13 := (nI_eq (by omega) (by omega)).mp c_13
      refine lv_iconst (v := nI (1)) hx hb dX10_letterOf_16 (by decide) ?_
      refine lv_goto (tgt := 73) hx hb dX10_letterOf_17 (by decide) ?_
      exact rSi S hr hlk (by have e : ixL c0 = 1 := (by unfold ixL; rw [if_neg c_3, if_pos c_13]); rw [if_pos (by omega), e]) dX10_letterOf_73
  · skip
    have c_3 := (nI_eq (by omega) (by omega)).mp c_3
    refine lv_iconst (v := nI (0)) hx hb dX10_letterOf_6 (by decide) ?_
    refine lv_goto (tgt := 73) hx hb dX10_letterOf_7 (by decide) ?_
    exact rSi S hr hlk (by have e : ixL c0 = 0 := (by unfold ixL; rw [if_pos c_3]); rw [if_pos (by omega), e]) dX10_letterOf_73
set_option maxHeartbeats 4000000 in
set_option maxRecDepth 100000 in
theorem c_X10_next (l : Launch) (D : va_G) (cy : Nat → ClassId) (ad : Nat → Nat) (N : Nat) (g : Nat → va_E) (hinj : ∀ i j : Nat, i < N → j < N → ad i = ad j → i = j) (hN : 145 ≤ N) (n : Nat) (fa : Nat) (he : Nat) (ov : Nat) (un : Nat) (la : Int32) (bo : Int32) (tp : Nat) (ft : Int32) (wr0 : Nat) (wa : Nat) (at0 : Nat) (sp : Nat) (tk : Nat) (vl : Int32) (fi : Nat) (nm : Nat) (dp : Nat) (wy : Int32) (st : Int32) (aP : Nat) (aF : Nat) (aH : Nat) (aO : Nat) (ps : Nat) (mn : Nat) (go : Int32) (vi : Nat) (hM : g 114 = mob ad (nI (n)) (nI (fa)) (nI (he)) (lN ov) (nI (un)) la bo (nI (tp)) ft (nI (wr0)) (nI (wa)) (nI (at0)) (nI (sp)) (nI (tk)) vl (nI (fi)) (nI (nm)) (nI (dp)) wy st (nI (aP)) (nI (aF)) (nI (aH)) (lN aO) (nI (ps)) (nI (mn)) go (nI (vi))) (TP : Nat → Nat) (hTP : g 121 = .inl (cy 1, 160, .inl (fun x9 => nI (TP x9)))) (T : Nat → Nat) (htp : tp ≤ 160) (hTT : ∀ i, i < tp → TP i = T i) (hT : ∀ i, T i < 256) (hwr0 : wr0 < 2 ^ 31) (hat : at0 ≤ tp) : Met l yX10_next (WS yX10_next cX10_next 2 none) (rmF 1 25) (PP [.ref (ad 114)] D cy ad N g) (QV (fun g1 => ∃ (at2 : Nat), ∃ (sp2 : Nat), ∃ (tk2 : Nat), ∃ (vl2 : Int32), ∃ (wr2 : Nat), ∃ (wa2 : Nat), ((¬ wr0 = 0 ∧ at2 = at0 ∧ sp2 = sp ∧ tk2 = tk ∧ vl2 = vl ∧ wr2 = wr0 ∧ wa2 = wa) ∨ (wr0 = 0 ∧ LXR T tp at0 at2 sp2 tk2 vl2 wr2 wa2)) ∧ g1 114 = mob ad (nI (n)) (nI (fa)) (nI (he)) (lN ov) (nI (un)) la bo (nI (tp)) ft (nI (wr2)) (nI (wa2)) (nI (at2)) (nI (sp2)) (nI (tk2)) vl2 (nI (fi)) (nI (nm)) (nI (dp)) wy st (nI (aP)) (nI (aF)) (nI (aH)) (lN aO) (nI (ps)) (nI (mn)) go (nI (vi)) ∧ (∀ j, j ≠ 114 → g1 j = g j)) D ad N) 0 0 (AA ad N) := by
  refine mentry (by decide) (Nat.le_of_ble_eq_true rfl) (fun p e s m below meth c ls S hr hlk hnm hP hK hl => ?_)
  have S : CallFix p m c cX10_next 2 s _ wsL_law RX10 := S
  have hx := S.1
  have hb := S.2.1
  have hl : lv_has ls 2 [(0, .ref (ad 114))] := hl
  have hI : MD (AA ad N) ad N := MD.in hinj
  have hS : va_S (AA ad N) s.heap s.heap [] := va_S.rf
  have hfr : ∀ j : Nat, g j = g j := fun _ => rfl
  have hT2 : ∀ i, i < tp → TP i < 256 := fun i hi => by rw [hTT i hi]; exact hT i
  refine lv_aload_n hx hb dX10_next_0 rfl (lv_at hl 0 rfl) ?_
  refine mg S hK hP (by omega) hM fd_X10_225 rfl dX10_next_1 ?_
  refine lv_if_le (tgt := 8) hx hb dX10_next_4 (by decide) (fun c_4 => ?_) (fun c_4 => ?_)
  · skip
    have c_4 := (z_le (by omega)).mp c_4
    have L8 : ∀ (fu : Nat) (a9 : Nat), (a9 ≤ tp) → (at0 ≤ a9) → (∀ i, at0 ≤ i → i < a9 → decide (T i ≠ 32) = false) → (tp - a9) < fu → ∀ (g_1 : Nat → va_E) (H : Heap) (locs : List Loc), g_1 114 = mob ad (nI (n)) (nI (fa)) (nI (he)) (lN ov) (nI (un)) la bo (nI (tp)) ft (nI (wr0)) (nI (wa)) (nI (a9)) (nI (sp)) (nI (tk)) vl (nI (fi)) (nI (nm)) (nI (dp)) wy st (nI (aP)) (nI (aF)) (nI (aH)) (lN aO) (nI (ps)) (nI (mn)) go (nI (vi)) → (∀ j : Nat, j ≠ 114 → g_1 j = g j) → MM D ad N g_1 H → va_S (AA ad N) s.heap H locs → ∀ (ls : Array Slot), lv_has ls 2 [(0, .ref (ad 114))] → W p l e (rmF 1 25) s m [.ref (ad 114)].toArray below meth c H locs 0 0 (MQ below (QV (fun g1 => ∃ (at2 : Nat), ∃ (sp2 : Nat), ∃ (tk2 : Nat), ∃ (vl2 : Int32), ∃ (wr2 : Nat), ∃ (wa2 : Nat), ((¬ wr0 = 0 ∧ at2 = at0 ∧ sp2 = sp ∧ tk2 = tk ∧ vl2 = vl ∧ wr2 = wr0 ∧ wa2 = wa) ∨ (wr0 = 0 ∧ LXR T tp at0 at2 sp2 tk2 vl2 wr2 wa2)) ∧ g1 114 = mob ad (nI (n)) (nI (fa)) (nI (he)) (lN ov) (nI (un)) la bo (nI (tp)) ft (nI (wr2)) (nI (wa2)) (nI (at2)) (nI (sp2)) (nI (tk2)) vl2 (nI (fi)) (nI (nm)) (nI (dp)) wy st (nI (aP)) (nI (aF)) (nI (aH)) (lN aO) (nI (ps)) (nI (mn)) go (nI (vi)) ∧ (∀ j, j ≠ 114 → g1 j = g j)) D ad N) [.ref (ad 114)].toArray s 0 0 (AA ad N)) (F0 m 8 ls []) := by
      intro fu
      induction fu with
      | zero => intro a9 ha9 haq hbl hms g_1 H locs h114_1 hfr_1 hP hS ls hl; exact absurd hms (Nat.not_lt_zero _)
      | succ fu ih8 =>
        intro a9 ha9 haq hbl hms g_1 H locs h114_1 hfr_1 hP hS ls hl
        have h121_1 : g_1 121 = .inl (cy 1, 160, .inl (fun x9 => nI (TP x9))) := (hfr_1 121 (by omega)).trans hTP
        refine lv_aload_n hx hb dX10_next_8 rfl (lv_at hl 0 rfl) ?_
        refine lv_aload_n hx hb dX10_next_9 rfl (lv_at hl 0 rfl) ?_
        refine mg S hK hP (by omega) h114_1 fd_X10_234 rfl dX10_next_10 ?_
        refine kVi (As := [.int (nI (a9))]) (rest := []) S hK hP (c_X10_byteAt l D cy ad N g_1 (by omega) n fa he ov un la bo tp ft wr0 wa a9 sp tk vl fi nm dp wy st aP aF aH aO ps mn go vi h114_1 TP h121_1 htp a9 (by omega)) cv_X10_237 (by omega) h114_1 ⟨_, _, rfl⟩ ⟨rfl, rfl⟩ rfl hl.1 rfl (Nat.le_of_ble_eq_true rfl) ⟨Nat.zero_le _, Nat.zero_le _⟩ dX10_next_13 (fun r_13 q_13 => ?_)
        subst q_13
        refine lv_bipush (v := nI (32)) hx hb dX10_next_16 (by decide) ?_
        refine lv_icmp_ne (tgt := 34) hx hb dX10_next_18 (by decide) (fun c_18 => ?_) (fun c_18 => ?_)
        · skip
          have c_18 := fun q => c_18 ((byM_32 hT2).mpr q)
          have hPE : lxP T tp at0 = a9 := by rcases Nat.lt_or_ge a9 tp with q | q; exact fsr_stop haq (by omega) hbl (decide_eq_true (fun z => c_18 ⟨q, by rw [hTT a9 q]; exact z⟩)); (have e : a9 = tp := (by omega); rw [e]; exact fsr_none hat (fun i x y => hbl i x (by omega)))
          refine lv_aload_n hx hb dX10_next_34 rfl (lv_at hl 0 rfl) ?_
          refine lv_aload_n hx hb dX10_next_35 rfl (lv_at hl 0 rfl) ?_
          refine mg S hK hP (by omega) h114_1 fd_X10_234 rfl dX10_next_36 ?_
          refine mp S hK hP hI hS (by omega) h114_1 fd_X10_228 rfl rfl (Nat.le_of_ble_eq_true rfl) dX10_next_39 (fun g_2 H locs eg_2 hP hS => ?_)
          have h114_2 : g_2 114 = mob ad (nI (n)) (nI (fa)) (nI (he)) (lN ov) (nI (un)) la bo (nI (tp)) ft (nI (wr0)) (nI (wa)) (nI (a9)) (nI (a9)) (nI (tk)) vl (nI (fi)) (nI (nm)) (nI (dp)) wy st (nI (aP)) (nI (aF)) (nI (aH)) (lN aO) (nI (ps)) (nI (mn)) go (nI (vi)) := by rw [eg_2, va_up_self]; exact rfl
          have h121_2 : g_2 121 = .inl (cy 1, 160, .inl (fun x9 => nI (TP x9))) := ((congrFun eg_2 _).trans (va_up_ne _ _ (by omega))).trans h121_1
          have hfr_2 : ∀ j : Nat, j ≠ 114 → g_2 j = g j := fun j n0 => ((congrFun eg_2 _).trans (va_up_ne _ _ n0)).trans (hfr_1 j n0)
          refine lv_aload_n hx hb dX10_next_42 rfl (lv_at hl 0 rfl) ?_
          refine lv_aload_n hx hb dX10_next_43 rfl (lv_at hl 0 rfl) ?_
          refine mg S hK hP (by omega) h114_2 fd_X10_234 rfl dX10_next_44 ?_
          refine kVi (As := [.int (nI (a9))]) (rest := []) S hK hP (c_X10_byteAt l D cy ad N g_2 (by omega) n fa he ov un la bo tp ft wr0 wa a9 a9 tk vl fi nm dp wy st aP aF aH aO ps mn go vi h114_2 TP h121_2 htp a9 (by omega)) cv_X10_237 (by omega) h114_2 ⟨_, _, rfl⟩ ⟨rfl, rfl⟩ rfl hl.1 rfl (Nat.le_of_ble_eq_true rfl) ⟨Nat.zero_le _, Nat.zero_le _⟩ dX10_next_47 (fun r_47 q_47 => ?_)
          subst q_47
          refine lv_istore_n (lv' := [(1, .int (byM TP tp a9)), (0, .ref (ad 114))]) hx hb dX10_next_50 rfl hl (by decide) rfl (fun ls hl => ?_)
          refine lv_iload_n hx hb dX10_next_51 rfl (lv_at hl 0 rfl) ?_
          refine lv_bipush (v := (-4)) hx hb dX10_next_52 (by decide) ?_
          refine lv_icmp_ne (tgt := 65) hx hb dX10_next_54 (by decide) (fun c_54 => ?_) (fun c_54 => ?_)
          · skip
            have ha9t : a9 < tp := Nat.not_le.mp (fun q => c_54 ((byM_4 hT2).mpr q))
            have eB : byM TP tp a9 = nI (T a9) := by unfold byM; rw [if_pos ha9t, hTT a9 ha9t]
            have hTa := hT a9
            refine lv_iload_n hx hb dX10_next_65 rfl (lv_at hl 0 rfl) ?_
            refine lv_i2l hx hb dX10_next_66 rfl ?_
            refine lv_ldc2 hx hb S.2.2.2.1 (S.2.2.2.2 _ m_X10_243) dX10_next_67 ?_
            refine tpl (show (48 : Int64) = lN 48 from rfl) ?_
            refine lv_ldc2 hx hb S.2.2.2.1 (S.2.2.2.2 _ m_X10_245) dX10_next_70 ?_
            refine tpl (show (57 : Int64) = lN 57 from rfl) ?_
            refine kSi (As := [.long ((byM TP tp a9).toInt64), .long (lN 48), .long (lN 57)]) (rest := []) S hK hP (c_X10_in l D cy ad N g_2 ((byM TP tp a9).toInt64) (lN 48) (lN 57)) cs_X10_115 ⟨rfl, rfl⟩ rfl hl.1 rfl (Nat.le_of_ble_eq_true rfl) ⟨Nat.zero_le _, Nat.zero_le _⟩ dX10_next_73 (fun r_73 q_73 => ?_)
            subst q_73
            refine tpi (ifC (byM_dg hT2)) ?_
            refine lv_if_eq (tgt := 187) hx hb dX10_next_76 (by decide) (fun c_76 => ?_) (fun c_76 => ?_)
            · skip
              have c_76 := bz_eq.mp c_76
              have hda : ¬ dg (T a9) = true := fun q => c_76 ⟨ha9t, by rw [hTT a9 ha9t]; exact q⟩
              have hl : lv_has ls 2 [(1, .int (nI (T a9))), (0, .ref (ad 114))] := by rw [eB] at hl; exact hl
              refine lv_aload_n hx hb dX10_next_187 rfl (lv_at hl 1 rfl) ?_
              refine lv_dup hx hb dX10_next_188 rfl ?_
              refine mg S hK hP (by omega) h114_2 fd_X10_234 rfl dX10_next_189 ?_
              refine lv_iconst (v := nI (1)) hx hb dX10_next_192 (by decide) ?_
              refine lv_iadd hx hb dX10_next_193 ?_
              refine tpi (nI_add a9 1) ?_
              refine mp S hK hP hI hS (by omega) h114_2 fd_X10_234 rfl rfl (Nat.le_of_ble_eq_true rfl) dX10_next_194 (fun g_3 H locs eg_3 hP hS => ?_)
              have h114_3 : g_3 114 = mob ad (nI (n)) (nI (fa)) (nI (he)) (lN ov) (nI (un)) la bo (nI (tp)) ft (nI (wr0)) (nI (wa)) (nI (a9 + 1)) (nI (a9)) (nI (tk)) vl (nI (fi)) (nI (nm)) (nI (dp)) wy st (nI (aP)) (nI (aF)) (nI (aH)) (lN aO) (nI (ps)) (nI (mn)) go (nI (vi)) := by rw [eg_3, va_up_self]; exact rfl
              have h121_3 : g_3 121 = .inl (cy 1, 160, .inl (fun x9 => nI (TP x9))) := ((congrFun eg_3 _).trans (va_up_ne _ _ (by omega))).trans h121_2
              have hfr_3 : ∀ j : Nat, j ≠ 114 → g_3 j = g j := fun j n0 => ((congrFun eg_3 _).trans (va_up_ne _ _ n0)).trans (hfr_2 j n0)
              refine lv_aload_n hx hb dX10_next_197 rfl (lv_at hl 1 rfl) ?_
              refine lv_iload_n hx hb dX10_next_198 rfl (lv_at hl 0 rfl) ?_
              refine lv_bipush (v := nI (40)) hx hb dX10_next_199 (by decide) ?_
              have J229 : ∀ (t9 : Nat), (t9 = tkM (T a9)) → (t9 ≤ 5) → ∀ (ls : Array Slot), lv_has ls 2 [(1, .int (nI (T a9))), (0, .ref (ad 114))] → W p l e (rmF 1 25) s m [.ref (ad 114)].toArray below meth c H locs 0 0 (MQ below (QV (fun g1 => ∃ (at2 : Nat), ∃ (sp2 : Nat), ∃ (tk2 : Nat), ∃ (vl2 : Int32), ∃ (wr2 : Nat), ∃ (wa2 : Nat), ((¬ wr0 = 0 ∧ at2 = at0 ∧ sp2 = sp ∧ tk2 = tk ∧ vl2 = vl ∧ wr2 = wr0 ∧ wa2 = wa) ∨ (wr0 = 0 ∧ LXR T tp at0 at2 sp2 tk2 vl2 wr2 wa2)) ∧ g1 114 = mob ad (nI (n)) (nI (fa)) (nI (he)) (lN ov) (nI (un)) la bo (nI (tp)) ft (nI (wr2)) (nI (wa2)) (nI (at2)) (nI (sp2)) (nI (tk2)) vl2 (nI (fi)) (nI (nm)) (nI (dp)) wy st (nI (aP)) (nI (aF)) (nI (aH)) (lN aO) (nI (ps)) (nI (mn)) go (nI (vi)) ∧ (∀ j, j ≠ 114 → g1 j = g j)) D ad N) [.ref (ad 114)].toArray s 0 0 (AA ad N)) (F0 m 229 ls [.int (nI (t9)), .ref (ad 114)]) := by
                intro t9 ht9 ht9b ls hl
                refine mp S hK hP hI hS (by omega) h114_3 fd_X10_240 rfl rfl (Nat.le_of_ble_eq_true rfl) dX10_next_229 (fun g_4 H locs eg_4 hP hS => ?_)
                have h114_4 : g_4 114 = mob ad (nI (n)) (nI (fa)) (nI (he)) (lN ov) (nI (un)) la bo (nI (tp)) ft (nI (wr0)) (nI (wa)) (nI (a9 + 1)) (nI (a9)) (nI (t9)) vl (nI (fi)) (nI (nm)) (nI (dp)) wy st (nI (aP)) (nI (aF)) (nI (aH)) (lN aO) (nI (ps)) (nI (mn)) go (nI (vi)) := by rw [eg_4, va_up_self]; exact rfl
                have h121_4 : g_4 121 = .inl (cy 1, 160, .inl (fun x9 => nI (TP x9))) := ((congrFun eg_4 _).trans (va_up_ne _ _ (by omega))).trans h121_3
                have hfr_4 : ∀ j : Nat, j ≠ 114 → g_4 j = g j := fun j n0 => ((congrFun eg_4 _).trans (va_up_ne _ _ n0)).trans (hfr_3 j n0)
                refine lv_aload_n hx hb dX10_next_232 rfl (lv_at hl 1 rfl) ?_
                refine lv_iload_n hx hb dX10_next_233 rfl (lv_at hl 0 rfl) ?_
                refine kSi (As := [.int (nI (T a9))]) (rest := [.ref (ad 114)]) S hK hP (c_X10_letterOf l D cy ad N g_4 (T a9) (by omega)) cs_X10_253 ⟨rfl, rfl⟩ rfl hl.1 rfl (Nat.le_of_ble_eq_true rfl) ⟨Nat.zero_le _, Nat.zero_le _⟩ dX10_next_234 (fun r_234 q_234 => ?_)
                subst q_234
                refine mp S hK hP hI hS (by omega) h114_4 fd_X10_247 rfl rfl (Nat.le_of_ble_eq_true rfl) dX10_next_237 (fun g_5 H locs eg_5 hP hS => ?_)
                have h114_5 : g_5 114 = mob ad (nI (n)) (nI (fa)) (nI (he)) (lN ov) (nI (un)) la bo (nI (tp)) ft (nI (wr0)) (nI (wa)) (nI (a9 + 1)) (nI (a9)) (nI (t9)) (if ixL (T a9) < 7 then nI (ixL (T a9)) else -4) (nI (fi)) (nI (nm)) (nI (dp)) wy st (nI (aP)) (nI (aF)) (nI (aH)) (lN aO) (nI (ps)) (nI (mn)) go (nI (vi)) := by rw [eg_5, va_up_self]; exact rfl
                have h121_5 : g_5 121 = .inl (cy 1, 160, .inl (fun x9 => nI (TP x9))) := ((congrFun eg_5 _).trans (va_up_ne _ _ (by omega))).trans h121_4
                have hfr_5 : ∀ j : Nat, j ≠ 114 → g_5 j = g j := fun j n0 => ((congrFun eg_5 _).trans (va_up_ne _ _ n0)).trans (hfr_4 j n0)
                refine lv_aload_n hx hb dX10_next_240 rfl (lv_at hl 1 rfl) ?_
                refine mg S hK hP (by omega) h114_5 fd_X10_240 rfl dX10_next_241 ?_
                refine lv_iconst (v := nI (1)) hx hb dX10_next_244 (by decide) ?_
                refine lv_icmp_ne (tgt := 262) hx hb dX10_next_245 (by decide) (fun c_245 => ?_) (fun c_245 => ?_)
                · skip
                  have c_245 := (not_congr (nI_eq (by omega) (by omega))).mp c_245
                  exact rMv S hr hlk hP hS ⟨_, _, _, _, _, _, (Or.inr ⟨c_4, by rw [ht9]; rw [ht9] at c_245; have q := LXR_chr (T := T) (len := tp) (q := at0) (c := T a9) (wa := wa) (by rw [hPE]; exact ha9t) (by rw [hPE]; exact hda) (by rw [hPE]) (by omega) (fun z => absurd z.1 c_245); rw [hPE] at q; rw [show (if tkM (T a9) = 1 ∧ ¬ ixL (T a9) < 7 then 1 else 0) = 0 from if_neg (fun z => absurd z.1 c_245)] at q; rw [c_4]; exact q⟩), h114_5, hfr_5⟩ dX10_next_262
                · skip
                  have c_245 := (nI_eq (by omega) (by omega)).mp c_245
                  refine lv_aload_n hx hb dX10_next_248 rfl (lv_at hl 1 rfl) ?_
                  refine mg S hK hP (by omega) h114_5 fd_X10_247 rfl dX10_next_249 ?_
                  refine lv_bipush (v := (-4)) hx hb dX10_next_252 (by decide) ?_
                  refine lv_icmp_ne (tgt := 262) hx hb dX10_next_254 (by decide) (fun c_254 => ?_) (fun c_254 => ?_)
                  · skip
                    exact rMv S hr hlk hP hS ⟨_, _, _, _, _, _, (Or.inr ⟨c_4, by rw [ht9]; rw [ht9] at c_245; have hix : ixL (T a9) < 7 := (Decidable.byContradiction (fun z => c_254 (if_neg z))); have q := LXR_chr (T := T) (len := tp) (q := at0) (c := T a9) (wa := wa) (by rw [hPE]; exact ha9t) (by rw [hPE]; exact hda) (by rw [hPE]) (by omega) (fun z => absurd hix z.2); rw [hPE] at q; rw [show (if tkM (T a9) = 1 ∧ ¬ ixL (T a9) < 7 then 1 else 0) = 0 from if_neg (fun z => absurd hix z.2)] at q; rw [c_4]; exact q⟩), h114_5, hfr_5⟩ dX10_next_262
                  · skip
                    refine lv_aload_n hx hb dX10_next_257 rfl (lv_at hl 1 rfl) ?_
                    refine lv_iconst (v := nI (1)) hx hb dX10_next_258 (by decide) ?_
                    refine kMv (As := [.int (nI (1))]) (rest := []) S hK hP hS (fun _ h => h) (c_X10_fails l D cy ad N g_5 hinj (by omega) n fa he ov un la bo tp ft wr0 wa (a9 + 1) a9 t9 (if ixL (T a9) < 7 then nI (ixL (T a9)) else -4) fi nm dp wy st aP aF aH aO ps mn go vi h114_5 (by omega) 1) cv_X10_250 (by omega) h114_5 ⟨_, _, rfl⟩ ⟨rfl, rfl⟩ rfl hl.1 rfl (Nat.le_of_ble_eq_true rfl) ⟨Nat.zero_le _, Nat.zero_le _⟩ dX10_next_259 (fun g_6 H locs q_6 hP hS => ?_)
                    obtain ⟨h114_6, f_6⟩ := q_6
                    have h121_6 : g_6 121 = .inl (cy 1, 160, .inl (fun x9 => nI (TP x9))) := (f_6 121 (by omega)).trans h121_5
                    have hfr_6 : ∀ j : Nat, j ≠ 114 → g_6 j = g j := fun j n0 => (f_6 j n0).trans (hfr_5 j n0)
                    exact rMv S hr hlk hP hS ⟨_, _, _, _, _, _, (Or.inr ⟨c_4, by rw [ht9]; rw [ht9] at c_245; have hix : ¬ ixL (T a9) < 7 := (fun z => by rw [if_pos z] at c_254; exact nI_m4 (by omega) c_254); have q := LXR_chr (T := T) (len := tp) (q := at0) (c := T a9) (wa := a9) (by rw [hPE]; exact ha9t) (by rw [hPE]; exact hda) (by rw [hPE]) (by omega) (fun _ => hPE.symm); rw [hPE] at q; rw [show (if tkM (T a9) = 1 ∧ ¬ ixL (T a9) < 7 then 1 else 0) = 1 from if_pos ⟨c_245, hix⟩] at q; rw [if_pos c_4, if_pos c_4]; exact q⟩), h114_6, hfr_6⟩ dX10_next_262
              refine lv_icmp_ne (tgt := 208) hx hb dX10_next_201 (by decide) (fun c_201 => ?_) (fun c_201 => ?_)
              · skip
                have c_201 := (not_congr (nI_eq (by omega) (by omega))).mp c_201
                refine lv_iload_n hx hb dX10_next_208 rfl (lv_at hl 0 rfl) ?_
                refine lv_bipush (v := nI (41)) hx hb dX10_next_209 (by decide) ?_
                refine lv_icmp_ne (tgt := 218) hx hb dX10_next_211 (by decide) (fun c_211 => ?_) (fun c_211 => ?_)
                · skip
                  have c_211 := (not_congr (nI_eq (by omega) (by omega))).mp c_211
                  refine lv_iload_n hx hb dX10_next_218 rfl (lv_at hl 0 rfl) ?_
                  refine lv_bipush (v := nI (46)) hx hb dX10_next_219 (by decide) ?_
                  refine lv_icmp_ne (tgt := 228) hx hb dX10_next_221 (by decide) (fun c_221 => ?_) (fun c_221 => ?_)
                  · skip
                    have c_221 := (not_congr (nI_eq (by omega) (by omega))).mp c_221
                    refine lv_iconst (v := nI (1)) hx hb dX10_next_228 (by decide) ?_
                    exact J229 1 (by unfold tkM; rw [if_neg c_201, if_neg c_211, if_neg c_221]) (by omega) _ (lv_sub hl [0, 1] rfl)
                  · skip
                    have c_221 := (nI_eq (by omega) (by omega)).mp c_221
                    refine lv_iconst (v := nI (5)) hx hb dX10_next_224 (by decide) ?_
                    refine lv_goto (tgt := 229) hx hb dX10_next_225 (by decide) ?_
                    exact J229 5 (by rw [c_221]; rfl) (by omega) _ (lv_sub hl [0, 1] rfl)
                · skip
                  have c_211 := (nI_eq (by omega) (by omega)).mp c_211
                  refine lv_iconst (v := nI (4)) hx hb dX10_next_214 (by decide) ?_
                  refine lv_goto (tgt := 229) hx hb dX10_next_215 (by decide) ?_
                  exact J229 4 (by rw [c_211]; rfl) (by omega) _ (lv_sub hl [0, 1] rfl)
              · skip
                have c_201 := (nI_eq (by omega) (by omega)).mp c_201
                refine lv_iconst (v := nI (3)) hx hb dX10_next_204 (by decide) ?_
                refine lv_goto (tgt := 229) hx hb dX10_next_205 (by decide) ?_
                exact J229 3 (by rw [c_201]; rfl) (by omega) _ (lv_sub hl [0, 1] rfl)
            · skip
              have c_76 := bz_ne.mp c_76
              have hda := c_76.2
              rw [hTT _ c_76.1] at hda
              refine lv_aload_n hx hb dX10_next_79 rfl (lv_at hl 1 rfl) ?_
              refine lv_iconst (v := nI (2)) hx hb dX10_next_80 (by decide) ?_
              refine mp S hK hP hI hS (by omega) h114_2 fd_X10_240 rfl rfl (Nat.le_of_ble_eq_true rfl) dX10_next_81 (fun g_7 H locs eg_7 hP hS => ?_)
              have h114_7 : g_7 114 = mob ad (nI (n)) (nI (fa)) (nI (he)) (lN ov) (nI (un)) la bo (nI (tp)) ft (nI (wr0)) (nI (wa)) (nI (a9)) (nI (a9)) (nI (2)) vl (nI (fi)) (nI (nm)) (nI (dp)) wy st (nI (aP)) (nI (aF)) (nI (aH)) (lN aO) (nI (ps)) (nI (mn)) go (nI (vi)) := by rw [eg_7, va_up_self]; exact rfl
              have h121_7 : g_7 121 = .inl (cy 1, 160, .inl (fun x9 => nI (TP x9))) := ((congrFun eg_7 _).trans (va_up_ne _ _ (by omega))).trans h121_2
              have hfr_7 : ∀ j : Nat, j ≠ 114 → g_7 j = g j := fun j n0 => ((congrFun eg_7 _).trans (va_up_ne _ _ n0)).trans (hfr_2 j n0)
              refine lv_aload_n hx hb dX10_next_84 rfl (lv_at hl 1 rfl) ?_
              refine lv_iconst (v := nI (0)) hx hb dX10_next_85 (by decide) ?_
              refine mp S hK hP hI hS (by omega) h114_7 fd_X10_247 rfl rfl (Nat.le_of_ble_eq_true rfl) dX10_next_86 (fun g_8 H locs eg_8 hP hS => ?_)
              have h114_8 : g_8 114 = mob ad (nI (n)) (nI (fa)) (nI (he)) (lN ov) (nI (un)) la bo (nI (tp)) ft (nI (wr0)) (nI (wa)) (nI (a9)) (nI (a9)) (nI (2)) (nI (0)) (nI (fi)) (nI (nm)) (nI (dp)) wy st (nI (aP)) (nI (aF)) (nI (aH)) (lN aO) (nI (ps)) (nI (mn)) go (nI (vi)) := by rw [eg_8, va_up_self]; exact rfl
              have h121_8 : g_8 121 = .inl (cy 1, 160, .inl (fun x9 => nI (TP x9))) := ((congrFun eg_8 _).trans (va_up_ne _ _ (by omega))).trans h121_7
              have hfr_8 : ∀ j : Nat, j ≠ 114 → g_8 j = g j := fun j n0 => ((congrFun eg_8 _).trans (va_up_ne _ _ n0)).trans (hfr_7 j n0)
              have L89 : ∀ (fu : Nat) (j9 : Nat), (a9 + j9 ≤ tp) → (∀ i, a9 ≤ i → i < a9 + j9 → (!dg (T i)) = false) → (tp - j9) < fu → ∀ (g_9 : Nat → va_E) (H : Heap) (locs : List Loc), g_9 114 = mob ad (nI (n)) (nI (fa)) (nI (he)) (lN ov) (nI (un)) la bo (nI (tp)) ft (nI (wr0)) (nI (wa)) (nI (a9 + j9)) (nI (a9)) (nI (2)) (nI (nuV T a9 j9)) (nI (fi)) (nI (nm)) (nI (dp)) wy st (nI (aP)) (nI (aF)) (nI (aH)) (lN aO) (nI (ps)) (nI (mn)) go (nI (vi)) → (∀ j : Nat, j ≠ 114 → g_9 j = g j) → MM D ad N g_9 H → va_S (AA ad N) s.heap H locs → ∀ (ls : Array Slot), lv_has ls 2 [(1, .int (byM TP tp a9)), (0, .ref (ad 114))] → W p l e (rmF 1 25) s m [.ref (ad 114)].toArray below meth c H locs 0 0 (MQ below (QV (fun g1 => ∃ (at2 : Nat), ∃ (sp2 : Nat), ∃ (tk2 : Nat), ∃ (vl2 : Int32), ∃ (wr2 : Nat), ∃ (wa2 : Nat), ((¬ wr0 = 0 ∧ at2 = at0 ∧ sp2 = sp ∧ tk2 = tk ∧ vl2 = vl ∧ wr2 = wr0 ∧ wa2 = wa) ∨ (wr0 = 0 ∧ LXR T tp at0 at2 sp2 tk2 vl2 wr2 wa2)) ∧ g1 114 = mob ad (nI (n)) (nI (fa)) (nI (he)) (lN ov) (nI (un)) la bo (nI (tp)) ft (nI (wr2)) (nI (wa2)) (nI (at2)) (nI (sp2)) (nI (tk2)) vl2 (nI (fi)) (nI (nm)) (nI (dp)) wy st (nI (aP)) (nI (aF)) (nI (aH)) (lN aO) (nI (ps)) (nI (mn)) go (nI (vi)) ∧ (∀ j, j ≠ 114 → g1 j = g j)) D ad N) [.ref (ad 114)].toArray s 0 0 (AA ad N)) (F0 m 89 ls []) := by
                intro fu
                induction fu with
                | zero => intro j9 hj9 hdgs hms g_9 H locs h114_9 hfr_9 hP hS ls hl; exact absurd hms (Nat.not_lt_zero _)
                | succ fu ih89 =>
                  intro j9 hj9 hdgs hms g_9 H locs h114_9 hfr_9 hP hS ls hl
                  have h121_9 : g_9 121 = .inl (cy 1, 160, .inl (fun x9 => nI (TP x9))) := (hfr_9 121 (by omega)).trans hTP
                  refine lv_aload_n hx hb dX10_next_89 rfl (lv_at hl 1 rfl) ?_
                  refine lv_aload_n hx hb dX10_next_90 rfl (lv_at hl 1 rfl) ?_
                  refine mg S hK hP (by omega) h114_9 fd_X10_234 rfl dX10_next_91 ?_
                  refine kVi (As := [.int (nI (a9 + j9))]) (rest := []) S hK hP (c_X10_byteAt l D cy ad N g_9 (by omega) n fa he ov un la bo tp ft wr0 wa (a9 + j9) a9 2 (nI (nuV T a9 j9)) fi nm dp wy st aP aF aH aO ps mn go vi h114_9 TP h121_9 htp (a9 + j9) (by omega)) cv_X10_237 (by omega) h114_9 ⟨_, _, rfl⟩ ⟨rfl, rfl⟩ rfl hl.1 rfl (Nat.le_of_ble_eq_true rfl) ⟨Nat.zero_le _, Nat.zero_le _⟩ dX10_next_94 (fun r_94 q_94 => ?_)
                  subst q_94
                  refine lv_i2l hx hb dX10_next_97 rfl ?_
                  refine lv_ldc2 hx hb S.2.2.2.1 (S.2.2.2.2 _ m_X10_243) dX10_next_98 ?_
                  refine tpl (show (48 : Int64) = lN 48 from rfl) ?_
                  refine lv_ldc2 hx hb S.2.2.2.1 (S.2.2.2.2 _ m_X10_245) dX10_next_101 ?_
                  refine tpl (show (57 : Int64) = lN 57 from rfl) ?_
                  refine kSi (As := [.long ((byM TP tp (a9 + j9)).toInt64), .long (lN 48), .long (lN 57)]) (rest := []) S hK hP (c_X10_in l D cy ad N g_9 ((byM TP tp (a9 + j9)).toInt64) (lN 48) (lN 57)) cs_X10_115 ⟨rfl, rfl⟩ rfl hl.1 rfl (Nat.le_of_ble_eq_true rfl) ⟨Nat.zero_le _, Nat.zero_le _⟩ dX10_next_104 (fun r_104 q_104 => ?_)
                  subst q_104
                  refine tpi (ifC (byM_dg hT2)) ?_
                  refine lv_if_eq (tgt := 166) hx hb dX10_next_107 (by decide) (fun c_107 => ?_) (fun c_107 => ?_)
                  · skip
                    have c_107 := bz_eq.mp c_107
                    have hdE : dgE T tp a9 = a9 + j9 := by rcases Nat.lt_or_ge (a9 + j9) tp with q | q; exact fsr_stop (by omega) q hdgs (by cases z : dg (T (a9 + j9)) with | true => exact absurd ⟨q, by rw [hTT _ q]; exact z⟩ c_107 | false => rfl); (have e : a9 + j9 = tp := (by omega); rw [e]; exact fsr_none (by omega) (fun i x y => hdgs i x (by omega)))
                    refine lv_aload_n hx hb dX10_next_166 rfl (lv_at hl 1 rfl) ?_
                    refine mg S hK hP (by omega) h114_9 fd_X10_234 rfl dX10_next_167 ?_
                    refine lv_aload_n hx hb dX10_next_170 rfl (lv_at hl 1 rfl) ?_
                    refine mg S hK hP (by omega) h114_9 fd_X10_228 rfl dX10_next_171 ?_
                    refine lv_isub hx hb dX10_next_174 ?_
                    refine tpi (pk_sub (a := a9 + j9) (b := a9) (by omega)) ?_
                    refine tpi (by rw [Nat.add_sub_cancel_left]) ?_
                    refine lv_iconst (v := nI (2)) hx hb dX10_next_175 (by decide) ?_
                    refine lv_icmp_le (tgt := 262) hx hb dX10_next_176 (by decide) (fun c_176 => ?_) (fun c_176 => ?_)
                    · skip
                      have c_176 := (nI_leI (by omega) (by omega)).mp c_176
                      exact rMv S hr hlk hP hS ⟨_, _, _, _, _, _, (Or.inr ⟨c_4, by have q := LXR_num (T := T) (len := tp) (q := at0) (e := a9 + j9) (j := j9) (wa := wa) (by rw [hPE]; exact ha9t) (by rw [hPE]; exact hda) (by rw [hPE]; exact hdE) (by rw [hPE]) (fun z => absurd c_176 z); rw [hPE] at q; rw [if_pos c_176] at q; rw [c_4]; exact q⟩), h114_9, hfr_9⟩ dX10_next_262
                    · skip
                      have c_176 := (not_congr (nI_leI (by omega) (by omega))).mp c_176
                      refine lv_aload_n hx hb dX10_next_179 rfl (lv_at hl 1 rfl) ?_
                      refine lv_iconst (v := nI (1)) hx hb dX10_next_180 (by decide) ?_
                      refine kMv (As := [.int (nI (1))]) (rest := []) S hK hP hS (fun _ h => h) (c_X10_fails l D cy ad N g_9 hinj (by omega) n fa he ov un la bo tp ft wr0 wa (a9 + j9) a9 2 (nI (nuV T a9 j9)) fi nm dp wy st aP aF aH aO ps mn go vi h114_9 (by omega) 1) cv_X10_250 (by omega) h114_9 ⟨_, _, rfl⟩ ⟨rfl, rfl⟩ rfl hl.1 rfl (Nat.le_of_ble_eq_true rfl) ⟨Nat.zero_le _, Nat.zero_le _⟩ dX10_next_181 (fun g_10 H locs q_10 hP hS => ?_)
                      obtain ⟨h114_10, f_10⟩ := q_10
                      have h121_10 : g_10 121 = .inl (cy 1, 160, .inl (fun x9 => nI (TP x9))) := (f_10 121 (by omega)).trans h121_9
                      have hfr_10 : ∀ j : Nat, j ≠ 114 → g_10 j = g j := fun j n0 => (f_10 j n0).trans (hfr_9 j n0)
                      refine lv_goto (tgt := 262) hx hb dX10_next_184 (by decide) ?_
                      exact rMv S hr hlk hP hS ⟨_, _, _, _, _, _, (Or.inr ⟨c_4, by have q := LXR_num (T := T) (len := tp) (q := at0) (e := a9 + j9) (j := j9) (wa := a9) (by rw [hPE]; exact ha9t) (by rw [hPE]; exact hda) (by rw [hPE]; exact hdE) (by rw [hPE]) (fun _ => hPE.symm); rw [hPE] at q; rw [if_neg c_176] at q; rw [if_pos c_4, if_pos c_4]; exact q⟩), h114_10, hfr_10⟩ dX10_next_262
                  · skip
                    have c_107 := bz_ne.mp c_107
                    have hdj := c_107.2
                    rw [hTT _ c_107.1] at hdj
                    have hdb := dg_48 hdj
                    refine lv_aload_n hx hb dX10_next_110 rfl (lv_at hl 1 rfl) ?_
                    refine lv_aload_n hx hb dX10_next_111 rfl (lv_at hl 1 rfl) ?_
                    refine mg S hK hP (by omega) h114_9 fd_X10_234 rfl dX10_next_112 ?_
                    refine lv_aload_n hx hb dX10_next_115 rfl (lv_at hl 1 rfl) ?_
                    refine mg S hK hP (by omega) h114_9 fd_X10_228 rfl dX10_next_116 ?_
                    refine lv_isub hx hb dX10_next_119 ?_
                    refine tpi (pk_sub (a := a9 + j9) (b := a9) (by omega)) ?_
                    refine tpi (by rw [Nat.add_sub_cancel_left]) ?_
                    refine lv_iconst (v := nI (2)) hx hb dX10_next_120 (by decide) ?_
                    have J150 : ∀ (z9 : Nat), (z9 = nuV T a9 (j9 + 1)) → ∀ (ls : Array Slot), lv_has ls 2 [(1, .int (byM TP tp a9)), (0, .ref (ad 114))] → W p l e (rmF 1 25) s m [.ref (ad 114)].toArray below meth c H locs 0 0 (MQ below (QV (fun g1 => ∃ (at2 : Nat), ∃ (sp2 : Nat), ∃ (tk2 : Nat), ∃ (vl2 : Int32), ∃ (wr2 : Nat), ∃ (wa2 : Nat), ((¬ wr0 = 0 ∧ at2 = at0 ∧ sp2 = sp ∧ tk2 = tk ∧ vl2 = vl ∧ wr2 = wr0 ∧ wa2 = wa) ∨ (wr0 = 0 ∧ LXR T tp at0 at2 sp2 tk2 vl2 wr2 wa2)) ∧ g1 114 = mob ad (nI (n)) (nI (fa)) (nI (he)) (lN ov) (nI (un)) la bo (nI (tp)) ft (nI (wr2)) (nI (wa2)) (nI (at2)) (nI (sp2)) (nI (tk2)) vl2 (nI (fi)) (nI (nm)) (nI (dp)) wy st (nI (aP)) (nI (aF)) (nI (aH)) (lN aO) (nI (ps)) (nI (mn)) go (nI (vi)) ∧ (∀ j, j ≠ 114 → g1 j = g j)) D ad N) [.ref (ad 114)].toArray s 0 0 (AA ad N)) (F0 m 150 ls [.int (nI (z9)), .ref (ad 114)]) := by
                      intro z9 hz9 ls hl
                      refine mp S hK hP hI hS (by omega) h114_9 fd_X10_247 rfl rfl (Nat.le_of_ble_eq_true rfl) dX10_next_150 (fun g_11 H locs eg_11 hP hS => ?_)
                      have h114_11 : g_11 114 = mob ad (nI (n)) (nI (fa)) (nI (he)) (lN ov) (nI (un)) la bo (nI (tp)) ft (nI (wr0)) (nI (wa)) (nI (a9 + j9)) (nI (a9)) (nI (2)) (nI (z9)) (nI (fi)) (nI (nm)) (nI (dp)) wy st (nI (aP)) (nI (aF)) (nI (aH)) (lN aO) (nI (ps)) (nI (mn)) go (nI (vi)) := by rw [eg_11, va_up_self]; exact rfl
                      have h121_11 : g_11 121 = .inl (cy 1, 160, .inl (fun x9 => nI (TP x9))) := ((congrFun eg_11 _).trans (va_up_ne _ _ (by omega))).trans h121_9
                      have hfr_11 : ∀ j : Nat, j ≠ 114 → g_11 j = g j := fun j n0 => ((congrFun eg_11 _).trans (va_up_ne _ _ n0)).trans (hfr_9 j n0)
                      refine lv_aload_n hx hb dX10_next_153 rfl (lv_at hl 1 rfl) ?_
                      refine lv_dup hx hb dX10_next_154 rfl ?_
                      refine mg S hK hP (by omega) h114_11 fd_X10_234 rfl dX10_next_155 ?_
                      refine lv_iconst (v := nI (1)) hx hb dX10_next_158 (by decide) ?_
                      refine lv_iadd hx hb dX10_next_159 ?_
                      refine tpi (nI_add (a9 + j9) 1) ?_
                      refine mp S hK hP hI hS (by omega) h114_11 fd_X10_234 rfl rfl (Nat.le_of_ble_eq_true rfl) dX10_next_160 (fun g_12 H locs eg_12 hP hS => ?_)
                      have h114_12 : g_12 114 = mob ad (nI (n)) (nI (fa)) (nI (he)) (lN ov) (nI (un)) la bo (nI (tp)) ft (nI (wr0)) (nI (wa)) (nI ((a9 + j9) + 1)) (nI (a9)) (nI (2)) (nI (z9)) (nI (fi)) (nI (nm)) (nI (dp)) wy st (nI (aP)) (nI (aF)) (nI (aH)) (lN aO) (nI (ps)) (nI (mn)) go (nI (vi)) := by rw [eg_12, va_up_self]; exact rfl
                      have h121_12 : g_12 121 = .inl (cy 1, 160, .inl (fun x9 => nI (TP x9))) := ((congrFun eg_12 _).trans (va_up_ne _ _ (by omega))).trans h121_11
                      have hfr_12 : ∀ j : Nat, j ≠ 114 → g_12 j = g j := fun j n0 => ((congrFun eg_12 _).trans (va_up_ne _ _ n0)).trans (hfr_11 j n0)
                      refine lv_goto (tgt := 89) hx hb dX10_next_163 (by decide) ?_
                      exact ih89 (j9 + 1) (by omega) (fun i x y => by rcases Nat.lt_or_ge i (a9 + j9) with q | q; exact hdgs i x q; (have e : i = a9 + j9 := (by omega); rw [e, hdj]; rfl)) (by omega) g_12 _ _ (by rw [← hz9]; exact h114_12) hfr_12 hP hS _ (lv_sub hl [0, 1] rfl)
                    refine lv_icmp_ge (tgt := 146) hx hb dX10_next_121 (by decide) (fun c_121 => ?_) (fun c_121 => ?_)
                    · skip
                      have c_121 := (nI_leI (by omega) (by omega)).mp c_121
                      refine lv_aload_n hx hb dX10_next_146 rfl (lv_at hl 1 rfl) ?_
                      refine mg S hK hP (by omega) h114_9 fd_X10_247 rfl dX10_next_147 ?_
                      exact J150 (nuV T a9 j9) (nuV_s2 (by omega)).symm _ (lv_sub hl [0, 1] rfl)
                    · skip
                      have c_121 := (not_congr (nI_leI (by omega) (by omega))).mp c_121
                      refine lv_bipush (v := nI (10)) hx hb dX10_next_124 (by decide) ?_
                      refine lv_aload_n hx hb dX10_next_126 rfl (lv_at hl 1 rfl) ?_
                      refine mg S hK hP (by omega) h114_9 fd_X10_247 rfl dX10_next_127 ?_
                      have hnv := nuV_lt (q := a9) hT j9
                      refine lv_imul hx hb dX10_next_130 ?_
                      refine tpi (pk_mul 10 (nuV T a9 j9)) ?_
                      refine lv_aload_n hx hb dX10_next_131 rfl (lv_at hl 1 rfl) ?_
                      refine lv_aload_n hx hb dX10_next_132 rfl (lv_at hl 1 rfl) ?_
                      refine mg S hK hP (by omega) h114_9 fd_X10_234 rfl dX10_next_133 ?_
                      refine kVi (As := [.int (nI (a9 + j9))]) (rest := [.int (nI (10 * nuV T a9 j9)), .ref (ad 114)]) S hK hP (c_X10_byteAt l D cy ad N g_9 (by omega) n fa he ov un la bo tp ft wr0 wa (a9 + j9) a9 2 (nI (nuV T a9 j9)) fi nm dp wy st aP aF aH aO ps mn go vi h114_9 TP h121_9 htp (a9 + j9) (by omega)) cv_X10_237 (by omega) h114_9 ⟨_, _, rfl⟩ ⟨rfl, rfl⟩ rfl hl.1 rfl (Nat.le_of_ble_eq_true rfl) ⟨Nat.zero_le _, Nat.zero_le _⟩ dX10_next_136 (fun r_136 q_136 => ?_)
                      subst q_136
                      refine tpi (by unfold byM; rw [if_pos c_107.1, hTT _ c_107.1]) ?_
                      have hTj := hT (a9 + j9)
                      refine lv_iadd hx hb dX10_next_139 ?_
                      refine tpi (nI_add (10 * nuV T a9 j9) (T (a9 + j9))) ?_
                      refine lv_bipush (v := nI (48)) hx hb dX10_next_140 (by decide) ?_
                      refine lv_isub hx hb dX10_next_142 ?_
                      refine tpi (pk_sub (a := (10 * nuV T a9 j9) + (T (a9 + j9))) (b := 48) (by omega)) ?_
                      refine lv_goto (tgt := 150) hx hb dX10_next_143 (by decide) ?_
                      exact J150 (((10 * nuV T a9 j9) + (T (a9 + j9))) - 48) (nuV_s1 (by omega)).symm _ (lv_sub hl [0, 1] rfl)
              exact L89 ((tp - 0) + 1) 0 (by omega) (fun i x y => by omega) (Nat.lt_succ_self _) g_8 _ _ h114_8 hfr_8 hP hS _ (lv_sub hl [0, 1] rfl)
          · skip
            have hge := (byM_4 hT2).mp c_54
            refine lv_aload_n hx hb dX10_next_57 rfl (lv_at hl 1 rfl) ?_
            refine lv_iconst (v := nI (0)) hx hb dX10_next_58 (by decide) ?_
            refine mp S hK hP hI hS (by omega) h114_2 fd_X10_240 rfl rfl (Nat.le_of_ble_eq_true rfl) dX10_next_59 (fun g_13 H locs eg_13 hP hS => ?_)
            have h114_13 : g_13 114 = mob ad (nI (n)) (nI (fa)) (nI (he)) (lN ov) (nI (un)) la bo (nI (tp)) ft (nI (wr0)) (nI (wa)) (nI (a9)) (nI (a9)) (nI (0)) vl (nI (fi)) (nI (nm)) (nI (dp)) wy st (nI (aP)) (nI (aF)) (nI (aH)) (lN aO) (nI (ps)) (nI (mn)) go (nI (vi)) := by rw [eg_13, va_up_self]; exact rfl
            have h121_13 : g_13 121 = .inl (cy 1, 160, .inl (fun x9 => nI (TP x9))) := ((congrFun eg_13 _).trans (va_up_ne _ _ (by omega))).trans h121_2
            have hfr_13 : ∀ j : Nat, j ≠ 114 → g_13 j = g j := fun j n0 => ((congrFun eg_13 _).trans (va_up_ne _ _ n0)).trans (hfr_2 j n0)
            refine lv_goto (tgt := 262) hx hb dX10_next_62 (by decide) ?_
            exact rMv S hr hlk hP hS ⟨_, _, _, _, _, _, (Or.inr ⟨c_4, by subst hPE; rw [c_4]; exact LXR_end (by omega)⟩), h114_13, hfr_13⟩ dX10_next_262
        · skip
          have c_18 := (byM_32 hT2).mp c_18
          have h18t := hTT a9 c_18.1
          refine lv_aload_n hx hb dX10_next_21 rfl (lv_at hl 0 rfl) ?_
          refine lv_dup hx hb dX10_next_22 rfl ?_
          refine mg S hK hP (by omega) h114_1 fd_X10_234 rfl dX10_next_23 ?_
          refine lv_iconst (v := nI (1)) hx hb dX10_next_26 (by decide) ?_
          refine lv_iadd hx hb dX10_next_27 ?_
          refine tpi (nI_add a9 1) ?_
          refine mp S hK hP hI hS (by omega) h114_1 fd_X10_234 rfl rfl (Nat.le_of_ble_eq_true rfl) dX10_next_28 (fun g_14 H locs eg_14 hP hS => ?_)
          have h114_14 : g_14 114 = mob ad (nI (n)) (nI (fa)) (nI (he)) (lN ov) (nI (un)) la bo (nI (tp)) ft (nI (wr0)) (nI (wa)) (nI (a9 + 1)) (nI (sp)) (nI (tk)) vl (nI (fi)) (nI (nm)) (nI (dp)) wy st (nI (aP)) (nI (aF)) (nI (aH)) (lN aO) (nI (ps)) (nI (mn)) go (nI (vi)) := by rw [eg_14, va_up_self]; exact rfl
          have h121_14 : g_14 121 = .inl (cy 1, 160, .inl (fun x9 => nI (TP x9))) := ((congrFun eg_14 _).trans (va_up_ne _ _ (by omega))).trans h121_1
          have hfr_14 : ∀ j : Nat, j ≠ 114 → g_14 j = g j := fun j n0 => ((congrFun eg_14 _).trans (va_up_ne _ _ n0)).trans (hfr_1 j n0)
          refine lv_goto (tgt := 8) hx hb dX10_next_31 (by decide) ?_
          exact ih8 (a9 + 1) (by omega) (by omega) (fun i x y => by rcases Nat.lt_or_ge i a9 with q | q; exact hbl i x q; (have e : i = a9 := (by omega); rw [e, ← h18t, c_18.2]; rfl)) (by omega) g_14 _ _ h114_14 hfr_14 hP hS _ (lv_sub hl [0] rfl)
    exact L8 ((tp - at0) + 1) at0 (by omega) (by omega) (fun i x y => by omega) (Nat.lt_succ_self _) g _ _ hM (fun j n0 => hfr j ) hP hS _ (lv_sub hl [0] rfl)
  · skip
    have c_4 := (not_congr (z_le (by omega))).mp c_4
    exact rMv S hr hlk hP hS ⟨_, _, _, _, _, _, (Or.inl ⟨c_4, rfl, rfl, rfl, rfl, rfl, rfl⟩), hM, (fun j n0 => hfr j )⟩ dX10_next_7

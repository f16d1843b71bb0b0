set_option maxHeartbeats 4000000 in
set_option maxRecDepth 100000 in
theorem c_X8_freeOf (l : Launch) (D : va_G) (cy : Nat → ClassId) (ad : Nat → Nat) (N : Nat) (g : Nat → va_E) (k : Nat) (hk : k < N) (w : WT) (hg : g k = .inr (8, [.int (nI (wn w)), .long (lN (sea (wd w) (wn w))), .int (nI (wf w)), .int (nI (wh w)), .long (lN (wo w))])) (hw : WOK w) (lf : Nat) (hlf : lf < 256) : Met l yX8_freeOf (WS yX8_freeOf cX8_freeOf 4 (some .int)) (rmF 3 67) (PP [.ref (ad k), .int (nI (lf))] D cy ad N g) (vp_Si (fun r => r = nI (fre (wn w) (wo w) lf))) 0 0 (fun _ => False) := by
  refine mentry (by decide) (Nat.le_of_ble_eq_true rfl) (fun p e s m below meth c ls S hr hlk hnm hP hK hl => ?_)
  have S : CallFix p m c cX8_freeOf 4 s _ wsL_law RX8 := S
  have hx := S.1
  have hb := S.2.1
  have hl : lv_has ls 4 [(0, .ref (ad k)), (1, .int (nI (lf)))] := hl
  have hn4 := hw.1.1
  have hn8 := hw.1.2
  have hpm := hw.2.1
  have hda := hpm.1
  have hf := lt256 hw.2.2.1 hn8
  have hh := lt256 hw.2.2.2.1 hn8
  have ho := hw.2.2.2.2.1
  refine lv_iconst (v := nI (0)) hx hb dX8_freeOf_0 (by decide) ?_
  refine lv_istore_n (lv' := [(2, .int (nI (0))), (0, .ref (ad k)), (1, .int (nI (lf)))]) hx hb dX8_freeOf_1 rfl hl (by decide) rfl (fun ls hl => ?_)
  refine lv_iconst (v := nI (0)) hx hb dX8_freeOf_2 (by decide) ?_
  refine lv_istore_n (lv' := [(3, .int (nI (0))), (2, .int (nI (0))), (0, .ref (ad k)), (1, .int (nI (lf)))]) hx hb dX8_freeOf_3 rfl hl (by decide) rfl (fun ls hl => ?_)
  have L4 : ∀ (fu : Nat) (j m0 : Nat), (j ≤ wn w) → (m0 = mk (frb (wn w) (wo w) lf) j) → (wn w - j) < fu → ∀ (ls : Array Slot), lv_has ls 4 [(3, .int (nI (j))), (2, .int (nI (m0))), (0, .ref (ad k)), (1, .int (nI (lf)))] → W p l e (rmF 3 67) s m [.ref (ad k), .int (nI (lf))].toArray below meth c s.heap [] 0 0 (MQ below (vp_Si (fun r => r = nI (fre (wn w) (wo w) lf))) [.ref (ad k), .int (nI (lf))].toArray s 0 0 (fun _ => False)) (F0 m 4 ls []) := by
    intro fu
    induction fu with
    | zero => intro j m0 hj hm hms ls hl; exact absurd hms (Nat.not_lt_zero _)
    | succ fu ih4 =>
      intro j m0 hj hm hms ls hl
      refine lv_iload_n hx hb dX8_freeOf_4 rfl (lv_at hl 0 rfl) ?_
      refine lv_aload_n hx hb dX8_freeOf_5 rfl (lv_at hl 2 rfl) ?_
      refine mg S hK hP hk hg fd_X8_15 rfl dX8_freeOf_6 ?_
      refine lv_icmp_ge (tgt := 42) hx hb dX8_freeOf_9 (by decide) (fun c_9 => ?_) (fun c_9 => ?_)
      · skip
        have c_9 := (nI_leI (by omega) (by omega)).mp c_9
        refine lv_iload_n hx hb dX8_freeOf_42 rfl (lv_at hl 1 rfl) ?_
        exact rSi S hr hlk (by have e : j = wn w := (by omega); subst e; exact congrArg nI hm) dX8_freeOf_43
      · skip
        have c_9 := (not_congr (nI_leI (by omega) (by omega))).mp c_9
        refine lv_iload_n hx hb dX8_freeOf_12 rfl (lv_at hl 3 rfl) ?_
        refine lv_iload_n hx hb dX8_freeOf_13 rfl (lv_at hl 0 rfl) ?_
        refine lv_iushr hx hb dX8_freeOf_14 rfl ?_
        refine tpi (ushN (by omega) (by omega)) ?_
        refine lv_iconst (v := nI (1)) hx hb dX8_freeOf_15 (by decide) ?_
        refine lv_iand hx hb dX8_freeOf_16 ?_
        refine tpi (nx_and (lf / 2 ^ j) 1) ?_
        have hz : lf / 2 ^ j &&& 1 ≤ 1 := Nat.and_le_right
        refine lv_if_eq (tgt := 36) hx hb dX8_freeOf_17 (by decide) (fun c_17 => ?_) (fun c_17 => ?_)
        · skip
          have c_17 := (z_eq (by omega)).mp c_17
          refine lv_iinc (v := nI (j + 1)) (lv' := [(3, .int (nI (j + 1))), (2, .int (nI (m0))), (0, .ref (ad k)), (1, .int (nI (lf)))]) hx hb dX8_freeOf_36 hl (k := 0) rfl (by exact nI_add j 1) (by decide) rfl (fun ls hl => ?_)
          refine lv_goto (tgt := 4) hx hb dX8_freeOf_39 (by decide) ?_
          exact ih4 (j + 1) m0 (by omega) (by first | exact (congrArg (fun z => z ||| 2 ^ j) hm).trans (mk_t (frb_t c_17 c_27)).symm | exact hm.trans (mk_f (frb_f1 c_17)).symm | exact hm.trans (mk_f (frb_f2 c_27)).symm) (by omega) _ (lv_sub hl [0, 1, 2, 3] rfl)
        · skip
          have c_17 := (not_congr (z_eq (by omega))).mp c_17
          refine lv_aload_n hx hb dX8_freeOf_20 rfl (lv_at hl 2 rfl) ?_
          refine lv_iload_n hx hb dX8_freeOf_21 rfl (lv_at hl 0 rfl) ?_
          refine kVi (As := [.int (nI (j))]) (rest := []) S hK hP (c_X8_thoseAbove l D cy ad N g k hk (wn w) (wd w) (wf w) (wh w) (wo w) hg hn4 hn8 ho j (by omega)) cv_X8_102 hk hg ⟨_, _, rfl⟩ ⟨rfl, rfl⟩ rfl hl.1 rfl (Nat.le_of_ble_eq_true rfl) ⟨Nat.zero_le _, Nat.zero_le _⟩ dX8_freeOf_22 (fun r_22 q_22 => ?_)
          subst q_22
          have ht8 := tab_lt (o := wo w) (i := j) hn8
          refine lv_iload_n hx hb dX8_freeOf_25 rfl (lv_at hl 3 rfl) ?_
          refine lv_iand hx hb dX8_freeOf_26 ?_
          refine tpi (nx_and (tab (wn w) (wo w) j) lf) ?_
          have hz3 : tab (wn w) (wo w) j &&& lf < 256 := Nat.lt_of_le_of_lt Nat.and_le_left ht8
          refine lv_if_ne (tgt := 36) hx hb dX8_freeOf_27 (by decide) (fun c_27 => ?_) (fun c_27 => ?_)
          · skip
            have c_27 := (not_congr (z_eq (by omega))).mp c_27
            refine lv_iinc (v := nI (j + 1)) (lv' := [(3, .int (nI (j + 1))), (2, .int (nI (m0))), (0, .ref (ad k)), (1, .int (nI (lf)))]) hx hb dX8_freeOf_36 hl (k := 0) rfl (by exact nI_add j 1) (by decide) rfl (fun ls hl => ?_)
            refine lv_goto (tgt := 4) hx hb dX8_freeOf_39 (by decide) ?_
            exact ih4 (j + 1) m0 (by omega) (by first | exact (congrArg (fun z => z ||| 2 ^ j) hm).trans (mk_t (frb_t c_17 c_27)).symm | exact hm.trans (mk_f (frb_f1 c_17)).symm | exact hm.trans (mk_f (frb_f2 c_27)).symm) (by omega) _ (lv_sub hl [0, 1, 2, 3] rfl)
          · skip
            have c_27 := (z_eq (by omega)).mp c_27
            refine lv_iload_n hx hb dX8_freeOf_30 rfl (lv_at hl 1 rfl) ?_
            refine lv_iconst (v := nI (1)) hx hb dX8_freeOf_31 (by decide) ?_
            refine lv_iload_n hx hb dX8_freeOf_32 rfl (lv_at hl 0 rfl) ?_
            refine lv_ishl hx hb dX8_freeOf_33 ?_
            refine tpi (shlN 1 (by omega)) ?_
            refine tpi (by rw [Nat.one_mul]) ?_
            refine lv_ior hx hb dX8_freeOf_34 ?_
            refine tpi (nI_or m0 (2 ^ j)) ?_
            refine lv_istore_n (lv' := [(2, .int (nI (m0 ||| (2 ^ j)))), (3, .int (nI (j))), (0, .ref (ad k)), (1, .int (nI (lf)))]) hx hb dX8_freeOf_35 rfl hl (by decide) rfl (fun ls hl => ?_)
            refine lv_iinc (v := nI (j + 1)) (lv' := [(3, .int (nI (j + 1))), (2, .int (nI (m0 ||| (2 ^ j)))), (0, .ref (ad k)), (1, .int (nI (lf)))]) hx hb dX8_freeOf_36 hl (k := 1) rfl (by exact nI_add j 1) (by decide) rfl (fun ls hl => ?_)
            refine lv_goto (tgt := 4) hx hb dX8_freeOf_39 (by decide) ?_
            exact ih4 (j + 1) (m0 ||| (2 ^ j)) (by omega) (by first | exact (congrArg (fun z => z ||| 2 ^ j) hm).trans (mk_t (frb_t c_17 c_27)).symm | exact hm.trans (mk_f (frb_f1 c_17)).symm | exact hm.trans (mk_f (frb_f2 c_27)).symm) (by omega) _ (lv_sub hl [0, 1, 2, 3] rfl)
  exact L4 ((wn w - 0) + 1) 0 0 (by omega) rfl (Nat.lt_succ_self _) _ (lv_sub hl [0, 1, 2, 3] rfl)
set_option maxHeartbeats 4000000 in
set_option maxRecDepth 100000 in
theorem c_X8_layerOf (l : Launch) (D : va_G) (cy : Nat → ClassId) (ad : Nat → Nat) (N : Nat) (g : Nat → va_E) (k : Nat) (hk : k < N) (w : WT) (hg : g k = .inr (8, [.int (nI (wn w)), .long (lN (sea (wd w) (wn w))), .int (nI (wf w)), .int (nI (wh w)), .long (lN (wo w))])) (hw : WOK w) (i : Nat) (hi : i < wn w) : Met l yX8_layerOf (WS yX8_layerOf cX8_layerOf 5 (some .int)) (rmF 4 90) (PP [.ref (ad k), .int (nI (i))] D cy ad N g) (vp_Si (fun r => r = if fs (fun L => (fre (wn w) (wo w) (lef (wn w) (wo w) (wh w) L)).testBit i) (wn w) < wn w then nI (fs (fun L => (fre (wn w) (wo w) (lef (wn w) (wo w) (wh w) L)).testBit i) (wn w)) else -4)) 0 0 (fun _ => False) := by
  refine mentry (by decide) (Nat.le_of_ble_eq_true rfl) (fun p e s m below meth c ls S hr hlk hnm hP hK hl => ?_)
  have S : CallFix p m c cX8_layerOf 5 s _ wsL_law RX8 := S
  have hx := S.1
  have hb := S.2.1
  have hl : lv_has ls 5 [(0, .ref (ad k)), (1, .int (nI (i)))] := hl
  have hn4 := hw.1.1
  have hn8 := hw.1.2
  have hpm := hw.2.1
  have hda := hpm.1
  have hf := lt256 hw.2.2.1 hn8
  have hh := lt256 hw.2.2.2.1 hn8
  have ho := hw.2.2.2.2.1
  refine lv_aload_n hx hb dX8_layerOf_0 rfl (lv_at hl 0 rfl) ?_
  refine mg S hK hP hk hg fd_X8_32 rfl dX8_layerOf_1 ?_
  refine lv_istore_n (lv' := [(2, .int (nI (wh w))), (0, .ref (ad k)), (1, .int (nI (i)))]) hx hb dX8_layerOf_4 rfl hl (by decide) rfl (fun ls hl => ?_)
  refine lv_iconst (v := nI (0)) hx hb dX8_layerOf_5 (by decide) ?_
  refine lv_istore_n (lv' := [(3, .int (nI (0))), (2, .int (nI (wh w))), (0, .ref (ad k)), (1, .int (nI (i)))]) hx hb dX8_layerOf_6 rfl hl (by decide) rfl (fun ls hl => ?_)
  have L7 : ∀ (fu : Nat) (L lf : Nat), (L ≤ wn w) → (lf < 256) → (lf = lef (wn w) (wo w) (wh w) L) → (∀ j, j < L → (fre (wn w) (wo w) (lef (wn w) (wo w) (wh w) j)).testBit i = false) → (wn w - L) < fu → ∀ (ls : Array Slot), lv_has ls 5 [(3, .int (nI (L))), (2, .int (nI (lf))), (0, .ref (ad k)), (1, .int (nI (i)))] → W p l e (rmF 4 90) s m [.ref (ad k), .int (nI (i))].toArray below meth c s.heap [] 0 0 (MQ below (vp_Si (fun r => r = if fs (fun L => (fre (wn w) (wo w) (lef (wn w) (wo w) (wh w) L)).testBit i) (wn w) < wn w then nI (fs (fun L => (fre (wn w) (wo w) (lef (wn w) (wo w) (wh w) L)).testBit i) (wn w)) else -4)) [.ref (ad k), .int (nI (i))].toArray s 0 0 (fun _ => False)) (F0 m 7 ls []) := by
    intro fu
    induction fu with
    | zero => intro L lf hL hlf hll hno hms ls hl; exact absurd hms (Nat.not_lt_zero _)
    | succ fu ih7 =>
      intro L lf hL hlf hll hno hms ls hl
      refine lv_iload_n hx hb dX8_layerOf_7 rfl (lv_at hl 0 rfl) ?_
      refine lv_aload_n hx hb dX8_layerOf_8 rfl (lv_at hl 2 rfl) ?_
      refine mg S hK hP hk hg fd_X8_15 rfl dX8_layerOf_9 ?_
      refine lv_icmp_ge (tgt := 46) hx hb dX8_layerOf_12 (by decide) (fun c_12 => ?_) (fun c_12 => ?_)
      · skip
        have c_12 := (nI_leI (by omega) (by omega)).mp c_12
        refine lv_bipush (v := (-4)) hx hb dX8_layerOf_46 (by decide) ?_
        have hLn : L = wn w := by omega
        subst hLn
        have hfs := fs_no (P := (fun L => (fre (wn w) (wo w) (lef (wn w) (wo w) (wh w) L)).testBit i)) (m := wn w) hno
        exact rSi S hr hlk (by show _ = ite _ _ _; rw [hfs, if_neg (by omega)]) dX8_layerOf_48
      · skip
        have c_12 := (not_congr (nI_leI (by omega) (by omega))).mp c_12
        refine lv_aload_n hx hb dX8_layerOf_15 rfl (lv_at hl 2 rfl) ?_
        refine lv_iload_n hx hb dX8_layerOf_16 rfl (lv_at hl 1 rfl) ?_
        refine kVi (As := [.int (nI (lf))]) (rest := []) S hK hP (c_X8_freeOf l D cy ad N g k hk w hg hw lf hlf) cv_X8_105 hk hg ⟨_, _, rfl⟩ ⟨rfl, rfl⟩ rfl hl.1 rfl (Nat.le_of_ble_eq_true rfl) ⟨Nat.zero_le _, Nat.zero_le _⟩ dX8_layerOf_17 (fun r_17 q_17 => ?_)
        subst q_17
        have hfr8 := fre_lt (o := wo w) (lf := lf) hn8
        refine lv_istore (lv' := [(4, .int (nI (fre (wn w) (wo w) lf))), (3, .int (nI (L))), (2, .int (nI (lf))), (0, .ref (ad k)), (1, .int (nI (i)))]) hx hb dX8_layerOf_20 hl (by decide) rfl (fun ls hl => ?_)
        refine lv_iload hx hb dX8_layerOf_22 (lv_at hl 0 rfl) ?_
        refine lv_iload_n hx hb dX8_layerOf_24 rfl (lv_at hl 4 rfl) ?_
        refine lv_iushr hx hb dX8_layerOf_25 rfl ?_
        refine tpi (ushN (by omega) (by omega)) ?_
        refine lv_iconst (v := nI (1)) hx hb dX8_layerOf_26 (by decide) ?_
        refine lv_iand hx hb dX8_layerOf_27 ?_
        refine tpi (nx_and ((fre (wn w) (wo w) lf) / 2 ^ i) 1) ?_
        have hz : fre (wn w) (wo w) lf / 2 ^ i &&& 1 ≤ 1 := Nat.and_le_right
        refine lv_if_eq (tgt := 33) hx hb dX8_layerOf_28 (by decide) (fun c_28 => ?_) (fun c_28 => ?_)
        · skip
          have c_28 := (z_eq (by omega)).mp c_28
          refine lv_iload_n hx hb dX8_layerOf_33 rfl (lv_at hl 2 rfl) ?_
          refine lv_iload hx hb dX8_layerOf_34 (lv_at hl 0 rfl) ?_
          refine lv_iconst (v := (-1)) hx hb dX8_layerOf_36 (by decide) ?_
          refine lv_ixor hx hb dX8_layerOf_37 ?_
          refine lv_iand hx hb dX8_layerOf_38 ?_
          refine tpi (nI_an _ _) ?_
          refine lv_istore_n (lv' := [(2, .int (nI (an lf (fre (wn w) (wo w) lf)))), (4, .int (nI (fre (wn w) (wo w) lf))), (3, .int (nI (L))), (0, .ref (ad k)), (1, .int (nI (i)))]) hx hb dX8_layerOf_39 rfl hl (by decide) rfl (fun ls hl => ?_)
          refine lv_iinc (v := nI (L + 1)) (lv' := [(3, .int (nI (L + 1))), (2, .int (nI (an lf (fre (wn w) (wo w) lf)))), (4, .int (nI (fre (wn w) (wo w) lf))), (0, .ref (ad k)), (1, .int (nI (i)))]) hx hb dX8_layerOf_40 hl (k := 2) rfl (by exact nI_add L 1) (by decide) rfl (fun ls hl => ?_)
          refine lv_goto (tgt := 7) hx hb dX8_layerOf_43 (by decide) ?_
          exact ih7 (L + 1) (an lf (fre (wn w) (wo w) lf)) (by omega) (an_le (k := 8) _ _ hlf) (by rw [hll]; rfl) (lt_sn hno (by rw [← hll]; exact b1_0 c_28)) (by omega) _ (lv_sub hl [0, 1, 3, 4] rfl)
        · skip
          have c_28 := (not_congr (z_eq (by omega))).mp c_28
          refine lv_iload_n hx hb dX8_layerOf_31 rfl (lv_at hl 1 rfl) ?_
          have hfs := fs_yes (P := (fun L => (fre (wn w) (wo w) (lef (wn w) (wo w) (wh w) L)).testBit i)) (k := L) hno (by show Nat.testBit _ _ = _; rw [← hll]; exact b1_1 c_28) (show L < wn w by omega)
          exact rSi S hr hlk (by show _ = ite _ _ _; rw [hfs, if_pos (by omega)]) dX8_layerOf_32
  exact L7 ((wn w - 0) + 1) 0 (wh w) (by omega) hh rfl (fun j q => absurd q (Nat.not_lt_zero _)) (Nat.lt_succ_self _) _ (lv_sub hl [0, 1, 2, 3] rfl)

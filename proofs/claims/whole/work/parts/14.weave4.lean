set_option maxHeartbeats 4000000 in
set_option maxRecDepth 100000 in
theorem c_X8_freeOf (l : Launch) (D : va_G) (cy : Nat → ClassId) (ad : Nat → Nat) (N : Nat) (g : Nat → va_E) (k : Nat) (hk : k < N) (w : WT) (hg : g k = .inr (8, [.int (nI (wn w)), .long (lN (sea (wd w) (wn w))), .int (nI (wf w)), .int (nI (wh w)), .long (lN (wo w))])) (hw : WOK w) (lf : Nat) (hlf : lf < 256) : Met l yX8_freeOf (WS yX8_freeOf cX8_freeOf 4 (some .int)) (rmF 3 67) (PP [.ref (ad k), .int (nI (lf))] D cy ad N g) (vp_Si (fun r => r = nI (fre (wn w) (wo w) lf))) 0 0 (fun _ => False) := by
  refine mentry (by decide) (Nat.le_of_ble_eq_true rfl) (fun p e s m below meth c ls S hr hlk hnm hP hK hl => ?_)
  have S : CallFix p m c cX8_freeOf 4 s _ wsL_law RX8 := S
  have hx := S.1
  have hb := S.2.1
  have hl : lv_has ls 4 [(0, .ref (ad k)), (1, .int (nI (lf)))] := hl
  have hn4 := hw.1.1
  have hn8 := hw.1.2
  have hpm := hw.2.1
  have hda := hpm.1
  have hf := lt256 hw.2.2.1 hn8
  have hh := lt256 hw.2.2.2.1 hn8
  have ho := hw.2.2.2.2.1
  refine lv_iconst (v := nI (0)) hx hb dX8_freeOf_0 (by decide) ?_
  refine lv_istore_n (lv' := [(2, .int (nI (0))), (0, .ref (ad k)), (1, .int (nI (lf)))]) hx hb dX8_freeOf_1 rfl hl (by decide) rfl (fun ls hl => ?_)
  refine lv_iconst (v := nI (0)) hx hb dX8_freeOf_2 (by decide) ?_
  refine lv_istore_n (lv' := [(3, .int (nI (0))), (2, .int (nI (0))), (0, .ref (ad k)), (1, .int (nI (lf)))]) hx hb dX8_freeOf_3 rfl hl (by decide) rfl (fun ls hl => ?_)
  have L4 : ∀ (fu : Nat) (j m0 : Nat), (j ≤ wn w) → (m0 = mk (frb (wn w) (wo w) lf) j) → (wn w - j) < fu → ∀ (ls : Array Slot), lv_has ls 4 [(3, .int (nI (j))), (2, .int (nI (m0))), (0, .ref (ad k)), (1, .int (nI (lf)))] → W p l e (rmF 3 67) s m [.ref (ad k), .int (nI (lf))].toArray below meth c s.heap [] 0 0 (MQ below (vp_Si (fun r => r = nI (fre (wn w) (wo w) lf))) [.ref (ad k), .int (nI (lf))].toArray s 0 0 (fun _ => False)) (F0 m 4 ls []) := by
    intro fu
    induction fu with
    | zero => intro j m0 hj hm hms ls hl; exact absurd hms (Nat.not_lt_zero _)
    | succ fu ih4 =>
      intro j m0 hj hm hms ls hl
      refine lv_iload_n hx hb dX8_freeOf_4 rfl (lv_at hl 0 rfl) ?_
      refine lv_aload_n hx hb dX8_freeOf_5 rfl (lv_at hl 2 rfl) ?_
      refine mg S hK hP hk hg fd_X8_15 rfl dX8_freeOf_6 ?_
      refine lv_icmp_ge (tgt := 42) hx hb dX8_freeOf_9 (by decide) (fun c_9 => ?_) (fun c_9 => ?_)
      · skip
        have c_9 := (nI_leI (by omega) (by omega)).mp c_9
        refine lv_iload_n hx hb dX8_freeOf_42 rfl (lv_at hl 1 rfl) ?_
        exact rSi S hr hlk (by have e : j = wn w := (by omega); subst e; exact congrArg nI hm) dX8_freeOf_43
      · skip
        have c_9 := (not_congr (nI_leI (by omega) (by omega))).mp c_9
        refine lv_iload_n hx hb dX8_freeOf_12 rfl (lv_at hl 3 rfl) ?_
        refine lv_iload_n hx hb dX8_freeOf_13 rfl (lv_at hl 0 rfl) ?_
        refine lv_iushr hx hb dX8_freeOf_14 rfl ?_
        refine tpi (ushN (by omega) (by omega)) ?_
        refine lv_iconst (v := nI (1)) hx hb dX8_freeOf_15 (by decide) ?_
        refine lv_iand hx hb dX8_freeOf_16 ?_
        refine tpi (nx_and (lf / 2 ^ j) 1) ?_
        have hz : lf / 2 ^ j &&& 1 ≤ 1 := Nat.and_le_right
        refine lv_if_eq (tgt := 36) hx hb dX8_freeOf_17 (by decide) (fun c_17 => ?_) (fun c_17 => ?_)
        · skip
          have c_17 := (z_eq (by omega)).mp c_17
          refine lv_iinc (v := nI (j + 1)) (lv' := [(3, .int (nI (j + 1))), (2, .int (nI (m0))), (0, .ref (ad k)), (1, .int (nI (lf)))]) hx hb dX8_freeOf_36 hl (k := 0) rfl (by exact nI_add j 1) (by decide) rfl (fun ls hl => ?_)
          refine lv_goto (tgt := 4) hx hb dX8_freeOf_39 (by decide) ?_
          exact ih4 (j + 1) m0 (by omega) (by first | exact (congrArg (fun z => z ||| 2 ^ j) hm).trans (mk_t (frb_t c_17 c_27)).symm | exact hm.trans (mk_f (frb_f1 c_17)).symm | exact hm.trans (mk_f (frb_f2 c_27)).symm) (by omega) _ (lv_sub hl [0, 1, 2, 3] rfl)
        · skip
          have c_17 := (not_congr (z_eq (by omega))).mp c_17
          refine lv_aload_n hx hb dX8_freeOf_20 rfl (lv_at hl 2 rfl) ?_
          refine lv_iload_n hx hb dX8_freeOf_21 rfl (lv_at hl 0 rfl) ?_
          refine kVi (As := [.int (nI (j))]) (rest := []) S hK hP (c_X8_thoseAbove l D cy ad N g k hk (wn w) (wd w) (wf w) (wh w) (wo w) hg hn4 hn8 ho j (by omega)) cv_X8_102 hk hg ⟨_, _, rfl⟩ ⟨rfl, rfl⟩ rfl hl.1 rfl (Nat.le_of_ble_eq_true rfl) ⟨Nat.zero_le _, Nat.zero_le _⟩ dX8_freeOf_22 (fun r_22 q_22 => ?_)
          subst q_22
          have ht8 := tab_lt (o := wo w) (i := j) hn8
          refine lv_iload_n hx hb dX8_freeOf_25 rfl (lv_at hl 3 rfl) ?_
          refine lv_iand hx hb dX8_freeOf_26 ?_
          refine tpi (nx_and (tab (wn w) (wo w) j) lf) ?_
          have hz3 : tab (wn w) (wo w) j &&& lf < 256 := Nat.lt_of_le_of_lt Nat.and_le_left ht8
          refine lv_if_ne (tgt := 36) hx hb dX8_freeOf_27 (by decide) (fun c_27 => ?_) (fun c_27 => ?_)
          · skip
            have c_27 := (not_congr (z_eq (by omega))).mp c_27
            refine lv_iinc (v := nI (j + 1)) (lv' := [(3, .int (nI (j + 1))), (2, .int (nI (m0))), (0, .ref (ad k)), (1, .int (nI (lf)))]) hx hb dX8_freeOf_36 hl (k := 0) rfl (by exact nI_add j 1) (by decide) rfl (fun ls hl => ?_)
            refine lv_goto (tgt := 4) hx hb dX8_freeOf_39 (by decide) ?_
            exact ih4 (j + 1) m0 (by omega) (by first | exact (congrArg (fun z => z ||| 2 ^ j) hm).trans (mk_t (frb_t c_17 c_27)).symm | exact hm.trans (mk_f (frb_f1 c_17)).symm | exact hm.trans (mk_f (frb_f2 c_27)).symm) (by omega) _ (lv_sub hl [0, 1, 2, 3] rfl)
          · skip
            have c_27 := (z_eq (by omega)).mp c_27
            refine lv_iload_n hx hb dX8_freeOf_30 rfl (lv_at hl 1 rfl) ?_
            refine lv_iconst (v := nI (1)) hx hb dX8_freeOf_31 (by decide) ?_
            refine lv_iload_n hx hb dX8_freeOf_32 rfl (lv_at hl 0 rfl) ?_
            refine lv_ishl hx hb dX8_freeOf_33 ?_
            refine tpi (shlN 1 (by omega)) ?_
            refine tpi (by rw [Nat.one_mul]) ?_
            refine lv_ior hx hb dX8_freeOf_34 ?_
            refine tpi (nI_or m0 (2 ^ j)) ?_
            refine lv_istore_n (lv' := [(2, .int (nI (m0 ||| (2 ^ j)))), (3, .int (nI (j))), (0, .ref (ad k)), (1, .int (nI (lf)))]) hx hb dX8_freeOf_35 rfl hl (by decide) rfl (fun ls hl => ?_)
            refine lv_iinc (v := nI (j + 1)) (lv' := [(3, .int (nI (j + 1))), (2, .int (nI (m0 ||| (2 ^ j)))), (0, .ref (ad k)), (1, .int (nI (lf)))]) hx hb dX8_freeOf_36 hl (k := 1) rfl (by exact nI_add j 1) (by decide) rfl (fun ls hl => ?_)
            refine lv_goto (tgt := 4) hx hb dX8_freeOf_39 (by decide) ?_
            exact ih4 (j + 1) (m0 ||| (2 ^ j)) (by omega) (by first | exact (congrArg (fun z => z ||| 2 ^ j) hm).trans (mk_t (frb_t c_17 c_27)).symm | exact hm.trans (mk_f (frb_f1 c_17)).symm | exact hm.trans (mk_f (frb_f2 c_27)).symm) (by omega) _ (lv_sub hl [0, 1, 2, 3] rfl)
  exact L4 ((wn w - 0) + 1) 0 0 (by omega) rfl (Nat.lt_succ_self _) _ (lv_sub hl [0, 1, 2, 3] rfl)
set_option maxHeartbeats 4000000 in
set_option maxRecDepth 100000 in
theorem c_X8_layerOf (l : Launch) (D : va_G) (cy : Nat → ClassId) (ad : Nat → Nat) (N : Nat) (g : Nat → va_E) (k : Nat) (hk : k < N) (w : WT) (hg : g k = .inr (8, [.int (nI (wn w)), .long (lN (sea (wd w) (wn w))), .int (nI (wf w)), .int (nI (wh w)), .long (lN (wo w))])) (hw : WOK w) (i : Nat) (hi : i < wn w) : Met l yX8_layerOf (WS yX8_layerOf cX8_layerOf 5 (some .int)) (rmF 4 90) (PP [.ref (ad k), .int (nI (i))] D cy ad N g) (vp_Si (fun r => r = if fs (fun L => (fre (wn w) (wo w) (lef (wn w) (wo w) (wh w) L)).testBit i) (wn w) < wn w then nI (fs (fun L => (fre (wn w) (wo w) (lef (wn w) (wo w) (wh w) L)).testBit i) (wn w)) else -4)) 0 0 (fun _ => False) := by
  refine mentry (by decide) (Nat.le_of_ble_eq_true rfl) (fun p e s m below meth c ls S hr hlk hnm hP hK hl => ?_)
  have S : CallFix p m c cX8_layerOf 5 s _ wsL_law RX8 := S
  have hx := S.1
  have hb := S.2.1
  have hl : lv_has ls 5 [(0, .ref (ad k)), (1, .int (nI (i)))] := hl
  have hn4 := hw.1.1
  have hn8 := hw.1.2
  have hpm := hw.2.1
  have hda := hpm.1
  have hf := lt256 hw.2.2.1 hn8
  have hh := lt256 hw.2.2.2.1 hn8
  have ho := hw.2.2.2.2.1
  refine lv_aload_n hx hb dX8_layerOf_0 rfl (lv_at hl 0 rfl) ?_
  refine mg S hK hP hk hg fd_X8_32 rfl dX8_layerOf_1 ?_
  refine lv_istore_n (lv' := [(2, .int (nI (wh w))), (0, .ref (ad k)), (1, .int (nI (i)))]) hx hb dX8_layerOf_4 rfl hl (by decide) rfl (fun ls hl => ?_)
  refine lv_iconst (v := nI (0)) hx hb dX8_layerOf_5 (by decide) ?_
  refine lv_istore_n (lv' := [(3, .int (nI (0))), (2, .int (nI (wh w))), (0, .ref (ad k)), (1, .int (nI (i)))]) hx hb dX8_layerOf_6 rfl hl (by decide) rfl (fun ls hl => ?_)
  have L7 : ∀ (fu : Nat) (L lf : Nat), (L ≤ wn w) → (lf < 256) → (lf = lef (wn w) (wo w) (wh w) L) → (∀ j, j < L → (fre (wn w) (wo w) (lef (wn w) (wo w) (wh w) j)).testBit i = false) → (wn w - L) < fu → ∀ (ls : Array Slot), lv_has ls 5 [(3, .int (nI (L))), (2, .int (nI (lf))), (0, .ref (ad k)), (1, .int (nI (i)))] → W p l e (rmF 4 90) s m [.ref (ad k), .int (nI (i))].toArray below meth c s.heap [] 0 0 (MQ below (vp_Si (fun r => r = if fs (fun L => (fre (wn w) (wo w) (lef (wn w) (wo w) (wh w) L)).testBit i) (wn w) < wn w then nI (fs (fun L => (fre (wn w) (wo w) (lef (wn w) (wo w) (wh w) L)).testBit i) (wn w)) else -4)) [.ref (ad k), .int (nI (i))].toArray s 0 0 (fun _ => False)) (F0 m 7 ls []) := by
    intro fu
    induction fu with
    | zero => intro L lf hL hlf hll hno hms ls hl; exact absurd hms (Nat.not_lt_zero _)
    | succ fu ih7 =>
      intro L lf hL hlf hll hno hms ls hl
      refine lv_iload_n hx hb dX8_layerOf_7 rfl (lv_at hl 0 rfl) ?_
      refine lv_aload_n hx hb dX8_layerOf_8 rfl (lv_at hl 2 rfl) ?_
      refine mg S hK hP hk hg fd_X8_15 rfl dX8_layerOf_9 ?_
      refine lv_icmp_ge (tgt := 46) hx hb dX8_layerOf_12 (by decide) (fun c_12 => ?_) (fun c_12 => ?_)
      · skip
        have c_12 := (nI_leI (by omega) (by omega)).mp c_12
        refine lv_bipush (v := (-4)) hx hb dX8_layerOf_46 (by decide) ?_
        have hLn : L = wn w := by omega
        subst hLn
        have hfs := fs_no (P := (fun L => (fre (wn w) (wo w) (lef (wn w) (wo w) (wh w) L)).testBit i)) (m := wn w) hno
        exact rSi S hr hlk (by show _ = ite _ _ _; rw [hfs, if_neg (by omega)]) dX8_layerOf_48
      · skip
        have c_12 := (not_congr (nI_leI (by omega) (by omega))).mp c_12
        refine lv_aload_n hx hb dX8_layerOf_15 rfl (lv_at hl 2 rfl) ?_
        refine lv_iload_n hx hb dX8_layerOf_16 rfl (lv_at hl 1 rfl) ?_
        refine kVi (As := [.int (nI (lf))]) (rest := []) S hK hP (c_X8_freeOf l D cy ad N g k hk w hg hw lf hlf) cv_X8_105 hk hg ⟨_, _, rfl⟩ ⟨rfl, rfl⟩ rfl hl.1 rfl (Nat.le_of_ble_eq_true rfl) ⟨Nat.zero_le _, Nat.zero_le _⟩ dX8_layerOf_17 (fun r_17 q_17 => ?_)
        subst q_17
        have hfr8 := fre_lt (o := wo w) (lf := lf) hn8
        refine lv_istore (lv' := [(4, .int (nI (fre (wn w) (wo w) lf))), (3, .int (nI (L))), (2, .int (nI (lf))), (0, .ref (ad k)), (1, .int (nI (i)))]) hx hb dX8_layerOf_20 hl (by decide) rfl (fun ls hl => ?_)
        refine lv_iload hx hb dX8_layerOf_22 (lv_at hl 0 rfl) ?_
        refine lv_iload_n hx hb dX8_layerOf_24 rfl (lv_at hl 4 rfl) ?_
        refine lv_iushr hx hb dX8_layerOf_25 rfl ?_
        refine tpi (ushN (by omega) (by omega)) ?_
        refine lv_iconst (v := nI (1)) hx hb dX8_layerOf_26 (by decide) ?_
        refine lv_iand hx hb dX8_layerOf_27 ?_
        refine tpi (nx_and ((fre (wn w) (wo w) lf) / 2 ^ i) 1) ?_
        have hz : fre (wn w) (wo w) lf / 2 ^ i &&& 1 ≤ 1 := Nat.and_le_right
        refine lv_if_eq (tgt := 33) hx hb dX8_layerOf_28 (by decide) (fun c_28 => ?_) (fun c_28 => ?_)
        · skip
          have c_28 := (z_eq (by omega)).mp c_28
          refine lv_iload_n hx hb dX8_layerOf_33 rfl (lv_at hl 2 rfl) ?_
          refine lv_iload hx hb dX8_layerOf_34 (lv_at hl 0 rfl) ?_
          refine lv_iconst (v := (-1)) hx hb dX8_layerOf_36 (by decide) ?_
          refine lv_ixor hx hb dX8_layerOf_37 ?_
          refine lv_iand hx hb dX8_layerOf_38 ?_
          refine tpi (nI_an _ _) ?_
          refine lv_istore_n (lv' := [(2, .int (nI (an lf (fre (wn w) (wo w) lf)))), (4, .int (nI (fre (wn w) (wo w) lf))), (3, .int (nI (L))), (0, .ref (ad k)), (1, .int (nI (i)))]) hx hb dX8_layerOf_39 rfl hl (by decide) rfl (fun ls hl => ?_)
          refine lv_iinc (v := nI (L + 1)) (lv' := [(3, .int (nI (L + 1))), (2, .int (nI (an lf (fre (wn w) (wo w) lf)))), (4, .int (nI (fre (wn w) (wo w) lf))), (0, .ref (ad k)), (1, .int (nI (i)))]) hx hb dX8_layerOf_40 hl (k := 2) rfl (by exact nI_add L 1) (by decide) rfl (fun ls hl => ?_)
          refine lv_goto (tgt := 7) hx hb dX8_layerOf_43 (by decide) ?_
          exact ih7 (L + 1) (an lf (fre (wn w) (wo w) lf)) (by omega) (an_le (k := 8) _ _ hlf) (by rw [hll]; rfl) (lt_sn hno (by rw [← hll]; exact b1_0 c_28)) (by omega) _ (lv_sub hl [0, 1, 3, 4] rfl)
        · skip
          have c_28 := (not_congr (z_eq (by omega))).mp c_28
          refine lv_iload_n hx hb dX8_layerOf_31 rfl (lv_at hl 1 rfl) ?_
          have hfs := fs_yes (P := (fun L => (fre (wn w) (wo w) (lef (wn w) (wo w) (wh w) L)).testBit i)) (k := L) hno (by show Nat.testBit _ _ = _; rw [← hll]; exact b1_1 c_28) (show L < wn w by omega)
          exact rSi S hr hlk (by show _ = ite _ _ _; rw [hfs, if_pos (by omega)]) dX8_layerOf_32
  exact L7 ((wn w - 0) + 1) 0 (wh w) (by omega) hh rfl (fun j q => absurd q (Nat.not_lt_zero _)) (Nat.lt_succ_self _) _ (lv_sub hl [0, 1, 2, 3] rfl)
set_option maxHeartbeats 4000000 in
set_option maxRecDepth 100000 in
theorem c_X8_layers (l : Launch) (D : va_G) (cy : Nat → ClassId) (ad : Nat → Nat) (N : Nat) (g : Nat → va_E) (k : Nat) (hk : k < N) (w : WT) (hg : g k = .inr (8, [.int (nI (wn w)), .long (lN (sea (wd w) (wn w))), .int (nI (wf w)), .int (nI (wh w)), .long (lN (wo w))])) (hw : WOK w) : Met l yX8_layers (WS yX8_layers cX8_layers 4 (some .int)) (rmF 4 90) (PP [.ref (ad k)] D cy ad N g) (vp_Si (fun r => r = nI (fs (fun L => decide (fre (wn w) (wo w) (lef (wn w) (wo w) (wh w) L) = 0)) (wn w)))) 0 0 (fun _ => False) := by
  refine mentry (by decide) (Nat.le_of_ble_eq_true rfl) (fun p e s m below meth c ls S hr hlk hnm hP hK hl => ?_)
  have S : CallFix p m c cX8_layers 4 s _ wsL_law RX8 := S
  have hx := S.1
  have hb := S.2.1
  have hl : lv_has ls 4 [(0, .ref (ad k))] := hl
  have hn4 := hw.1.1
  have hn8 := hw.1.2
  have hpm := hw.2.1
  have hda := hpm.1
  have hf := lt256 hw.2.2.1 hn8
  have hh := lt256 hw.2.2.2.1 hn8
  have ho := hw.2.2.2.2.1
  refine lv_aload_n hx hb dX8_layers_0 rfl (lv_at hl 0 rfl) ?_
  refine mg S hK hP hk hg fd_X8_32 rfl dX8_layers_1 ?_
  refine lv_istore_n (lv' := [(1, .int (nI (wh w))), (0, .ref (ad k))]) hx hb dX8_layers_4 rfl hl (by decide) rfl (fun ls hl => ?_)
  refine lv_iconst (v := nI (0)) hx hb dX8_layers_5 (by decide) ?_
  refine lv_istore_n (lv' := [(2, .int (nI (0))), (1, .int (nI (wh w))), (0, .ref (ad k))]) hx hb dX8_layers_6 rfl hl (by decide) rfl (fun ls hl => ?_)
  have L7 : ∀ (fu : Nat) (L lf : Nat), (L ≤ wn w) → (lf < 256) → (lf = lef (wn w) (wo w) (wh w) L) → (∀ j, j < L → decide (fre (wn w) (wo w) (lef (wn w) (wo w) (wh w) j) = 0) = false) → (wn w - L) < fu → ∀ (ls : Array Slot), lv_has ls 4 [(2, .int (nI (L))), (1, .int (nI (lf))), (0, .ref (ad k))] → W p l e (rmF 4 90) s m [.ref (ad k)].toArray below meth c s.heap [] 0 0 (MQ below (vp_Si (fun r => r = nI (fs (fun L => decide (fre (wn w) (wo w) (lef (wn w) (wo w) (wh w) L) = 0)) (wn w)))) [.ref (ad k)].toArray s 0 0 (fun _ => False)) (F0 m 7 ls []) := by
    intro fu
    induction fu with
    | zero => intro L lf hL hlf hll hno hms ls hl; exact absurd hms (Nat.not_lt_zero _)
    | succ fu ih7 =>
      intro L lf hL hlf hll hno hms ls hl
      refine lv_iload_n hx hb dX8_layers_7 rfl (lv_at hl 0 rfl) ?_
      refine lv_aload_n hx hb dX8_layers_8 rfl (lv_at hl 2 rfl) ?_
      refine mg S hK hP hk hg fd_X8_15 rfl dX8_layers_9 ?_
      refine lv_icmp_ge (tgt := 39) hx hb dX8_layers_12 (by decide) (fun c_12 => ?_) (fun c_12 => ?_)
      · skip
        have c_12 := (nI_leI (by omega) (by omega)).mp c_12
        refine lv_aload_n hx hb dX8_layers_39 rfl (lv_at hl 2 rfl) ?_
        refine mg S hK hP hk hg fd_X8_15 rfl dX8_layers_40 ?_
        have hLn : L = wn w := by omega
        subst hLn
        have hfs := fs_no (P := (fun L => decide (fre (wn w) (wo w) (lef (wn w) (wo w) (wh w) L) = 0))) (m := wn w) hno
        exact rSi S hr hlk (congrArg nI hfs.symm) dX8_layers_43
      · skip
        have c_12 := (not_congr (nI_leI (by omega) (by omega))).mp c_12
        refine lv_aload_n hx hb dX8_layers_15 rfl (lv_at hl 2 rfl) ?_
        refine lv_iload_n hx hb dX8_layers_16 rfl (lv_at hl 1 rfl) ?_
        refine kVi (As := [.int (nI (lf))]) (rest := []) S hK hP (c_X8_freeOf l D cy ad N g k hk w hg hw lf hlf) cv_X8_105 hk hg ⟨_, _, rfl⟩ ⟨rfl, rfl⟩ rfl hl.1 rfl (Nat.le_of_ble_eq_true rfl) ⟨Nat.zero_le _, Nat.zero_le _⟩ dX8_layers_17 (fun r_17 q_17 => ?_)
        subst q_17
        have hfr8 := fre_lt (o := wo w) (lf := lf) hn8
        refine lv_istore_n (lv' := [(3, .int (nI (fre (wn w) (wo w) lf))), (2, .int (nI (L))), (1, .int (nI (lf))), (0, .ref (ad k))]) hx hb dX8_layers_20 rfl hl (by decide) rfl (fun ls hl => ?_)
        refine lv_iload_n hx hb dX8_layers_21 rfl (lv_at hl 0 rfl) ?_
        refine lv_if_ne (tgt := 27) hx hb dX8_layers_22 (by decide) (fun c_22 => ?_) (fun c_22 => ?_)
        · skip
          have c_22 := (not_congr (z_eq (by omega))).mp c_22
          refine lv_iload_n hx hb dX8_layers_27 rfl (lv_at hl 2 rfl) ?_
          refine lv_iload_n hx hb dX8_layers_28 rfl (lv_at hl 0 rfl) ?_
          refine lv_iconst (v := (-1)) hx hb dX8_layers_29 (by decide) ?_
          refine lv_ixor hx hb dX8_layers_30 ?_
          refine lv_iand hx hb dX8_layers_31 ?_
          refine tpi (nI_an _ _) ?_
          refine lv_istore_n (lv' := [(1, .int (nI (an lf (fre (wn w) (wo w) lf)))), (3, .int (nI (fre (wn w) (wo w) lf))), (2, .int (nI (L))), (0, .ref (ad k))]) hx hb dX8_layers_32 rfl hl (by decide) rfl (fun ls hl => ?_)
          refine lv_iinc (v := nI (L + 1)) (lv' := [(2, .int (nI (L + 1))), (1, .int (nI (an lf (fre (wn w) (wo w) lf)))), (3, .int (nI (fre (wn w) (wo w) lf))), (0, .ref (ad k))]) hx hb dX8_layers_33 hl (k := 2) rfl (by exact nI_add L 1) (by decide) rfl (fun ls hl => ?_)
          refine lv_goto (tgt := 7) hx hb dX8_layers_36 (by decide) ?_
          exact ih7 (L + 1) (an lf (fre (wn w) (wo w) lf)) (by omega) (an_le (k := 8) _ _ hlf) (by rw [hll]; rfl) (lt_sn hno (by rw [← hll]; exact decide_eq_false c_22)) (by omega) _ (lv_sub hl [0, 1, 3] rfl)
        · skip
          have c_22 := (z_eq (by omega)).mp c_22
          refine lv_iload_n hx hb dX8_layers_25 rfl (lv_at hl 1 rfl) ?_
          have hfs := fs_yes (P := (fun L => decide (fre (wn w) (wo w) (lef (wn w) (wo w) (wh w) L) = 0))) (k := L) hno (by show decide _ = _; rw [← hll]; exact decide_eq_true c_22) (show L < wn w by omega)
          exact rSi S hr hlk (congrArg nI hfs.symm) dX8_layers_26
  exact L7 ((wn w - 0) + 1) 0 (wh w) (by omega) hh rfl (fun j q => absurd q (Nat.not_lt_zero _)) (Nat.lt_succ_self _) _ (lv_sub hl [0, 1, 2] rfl)
set_option maxHeartbeats 4000000 in
set_option maxRecDepth 100000 in
theorem c_X8_bound (l : Launch) (D : va_G) (cy : Nat → ClassId) (ad : Nat → Nat) (N : Nat) (g : Nat → va_E) (k : Nat) (hk : k < N) (w : WT) (hg : g k = .inr (8, [.int (nI (wn w)), .long (lN (sea (wd w) (wn w))), .int (nI (wf w)), .int (nI (wh w)), .long (lN (wo w))])) (hw : WOK w) : Met l yX8_bound (WS yX8_bound cX8_bound 3 (some .int)) (rmF 4 90) (PP [.ref (ad k)] D cy ad N g) (vp_Si (fun r => r = nI (lef (wn w) (wo w) (wh w) (wn w)))) 0 0 (fun _ => False) := by
  refine mentry (by decide) (Nat.le_of_ble_eq_true rfl) (fun p e s m below meth c ls S hr hlk hnm hP hK hl => ?_)
  have S : CallFix p m c cX8_bound 3 s _ wsL_law RX8 := S
  have hx := S.1
  have hb := S.2.1
  have hl : lv_has ls 3 [(0, .ref (ad k))] := hl
  have hn4 := hw.1.1
  have hn8 := hw.1.2
  have hpm := hw.2.1
  have hda := hpm.1
  have hf := lt256 hw.2.2.1 hn8
  have hh := lt256 hw.2.2.2.1 hn8
  have ho := hw.2.2.2.2.1
  refine lv_aload_n hx hb dX8_bound_0 rfl (lv_at hl 0 rfl) ?_
  refine mg S hK hP hk hg fd_X8_32 rfl dX8_bound_1 ?_
  refine lv_istore_n (lv' := [(1, .int (nI (wh w))), (0, .ref (ad k))]) hx hb dX8_bound_4 rfl hl (by decide) rfl (fun ls hl => ?_)
  refine lv_iconst (v := nI (0)) hx hb dX8_bound_5 (by decide) ?_
  refine lv_istore_n (lv' := [(2, .int (nI (0))), (1, .int (nI (wh w))), (0, .ref (ad k))]) hx hb dX8_bound_6 rfl hl (by decide) rfl (fun ls hl => ?_)
  have L7 : ∀ (fu : Nat) (L lf : Nat), (L ≤ wn w) → (lf < 256) → (lf = lef (wn w) (wo w) (wh w) L) → (wn w - L) < fu → ∀ (ls : Array Slot), lv_has ls 3 [(2, .int (nI (L))), (1, .int (nI (lf))), (0, .ref (ad k))] → W p l e (rmF 4 90) s m [.ref (ad k)].toArray below meth c s.heap [] 0 0 (MQ below (vp_Si (fun r => r = nI (lef (wn w) (wo w) (wh w) (wn w)))) [.ref (ad k)].toArray s 0 0 (fun _ => False)) (F0 m 7 ls []) := by
    intro fu
    induction fu with
    | zero => intro L lf hL hlf hll hms ls hl; exact absurd hms (Nat.not_lt_zero _)
    | succ fu ih7 =>
      intro L lf hL hlf hll hms ls hl
      refine lv_iload_n hx hb dX8_bound_7 rfl (lv_at hl 0 rfl) ?_
      refine lv_aload_n hx hb dX8_bound_8 rfl (lv_at hl 2 rfl) ?_
      refine mg S hK hP hk hg fd_X8_15 rfl dX8_bound_9 ?_
      refine lv_icmp_ge (tgt := 31) hx hb dX8_bound_12 (by decide) (fun c_12 => ?_) (fun c_12 => ?_)
      · skip
        have c_12 := (nI_leI (by omega) (by omega)).mp c_12
        refine lv_iload_n hx hb dX8_bound_31 rfl (lv_at hl 1 rfl) ?_
        exact rSi S hr hlk (by have e : L = wn w := (by omega); rw [hll, e]) dX8_bound_32
      · skip
        have c_12 := (not_congr (nI_leI (by omega) (by omega))).mp c_12
        refine lv_iload_n hx hb dX8_bound_15 rfl (lv_at hl 1 rfl) ?_
        refine lv_aload_n hx hb dX8_bound_16 rfl (lv_at hl 2 rfl) ?_
        refine lv_iload_n hx hb dX8_bound_17 rfl (lv_at hl 1 rfl) ?_
        refine kVi (As := [.int (nI (lf))]) (rest := [.int (nI (lf))]) S hK hP (c_X8_freeOf l D cy ad N g k hk w hg hw lf hlf) cv_X8_105 hk hg ⟨_, _, rfl⟩ ⟨rfl, rfl⟩ rfl hl.1 rfl (Nat.le_of_ble_eq_true rfl) ⟨Nat.zero_le _, Nat.zero_le _⟩ dX8_bound_18 (fun r_18 q_18 => ?_)
        subst q_18
        refine lv_iconst (v := (-1)) hx hb dX8_bound_21 (by decide) ?_
        refine lv_ixor hx hb dX8_bound_22 ?_
        refine lv_iand hx hb dX8_bound_23 ?_
        refine tpi (nI_an _ _) ?_
        refine lv_istore_n (lv' := [(1, .int (nI (an lf (fre (wn w) (wo w) lf)))), (2, .int (nI (L))), (0, .ref (ad k))]) hx hb dX8_bound_24 rfl hl (by decide) rfl (fun ls hl => ?_)
        refine lv_iinc (v := nI (L + 1)) (lv' := [(2, .int (nI (L + 1))), (1, .int (nI (an lf (fre (wn w) (wo w) lf)))), (0, .ref (ad k))]) hx hb dX8_bound_25 hl (k := 1) rfl (by exact nI_add L 1) (by decide) rfl (fun ls hl => ?_)
        refine lv_goto (tgt := 7) hx hb dX8_bound_28 (by decide) ?_
        exact ih7 (L + 1) (an lf (fre (wn w) (wo w) lf)) (by omega) (an_le (k := 8) _ _ hlf) (by rw [hll]; rfl) (by omega) _ (lv_sub hl [0, 1, 2] rfl)
  exact L7 ((wn w - 0) + 1) 0 (wh w) (by omega) hh rfl (Nat.lt_succ_self _) _ (lv_sub hl [0, 1, 2] rfl)
set_option maxHeartbeats 4000000 in
set_option maxRecDepth 100000 in
theorem c_X8_isLock (l : Launch) (D : va_G) (cy : Nat → ClassId) (ad : Nat → Nat) (N : Nat) (g : Nat → va_E) (k : Nat) (hk : k < N) (w : WT) (hg : g k = .inr (8, [.int (nI (wn w)), .long (lN (sea (wd w) (wn w))), .int (nI (wf w)), .int (nI (wh w)), .long (lN (wo w))])) (hw : WOK w) : Met l yX8_isLock (WS yX8_isLock cX8_isLock 2 (some .boolean)) (rmF 3 67) (PP [.ref (ad k)] D cy ad N g) (vp_Si (fun r => r = if (wh w = 2 ^ wn w - 1 ∧ ∀ i, i < wn w → wo w / 2 ^ (8 * i) % 256 ≠ 0 ∧ tab (wn w) (wo w) i ≠ 0) then 1 else 0)) 0 0 (fun _ => False) := by
  refine mentry (by decide) (Nat.le_of_ble_eq_true rfl) (fun p e s m below meth c ls S hr hlk hnm hP hK hl => ?_)
  have S : CallFix p m c cX8_isLock 2 s _ wsL_law RX8 := S
  have hx := S.1
  have hb := S.2.1
  have hl : lv_has ls 2 [(0, .ref (ad k))] := hl
  have hn4 := hw.1.1
  have hn8 := hw.1.2
  have hpm := hw.2.1
  have hda := hpm.1
  have hf := lt256 hw.2.2.1 hn8
  have hh := lt256 hw.2.2.2.1 hn8
  have ho := hw.2.2.2.2.1
  refine lv_aload_n hx hb dX8_isLock_0 rfl (lv_at hl 0 rfl) ?_
  refine mg S hK hP hk hg fd_X8_32 rfl dX8_isLock_1 ?_
  refine lv_iconst (v := nI (1)) hx hb dX8_isLock_4 (by decide) ?_
  refine lv_aload_n hx hb dX8_isLock_5 rfl (lv_at hl 0 rfl) ?_
  refine mg S hK hP hk hg fd_X8_15 rfl dX8_isLock_6 ?_
  refine lv_ishl hx hb dX8_isLock_9 ?_
  refine tpi (shlN 1 (by omega)) ?_
  have hz : 1 ≤ 1 * 2 ^ wn w := Nat.one_le_mul_pow (wn w)
  have hz8 : 2 ^ wn w ≤ 256 := Nat.pow_le_pow_right (n := 2) (by omega) hn8
  refine lv_iconst (v := nI (1)) hx hb dX8_isLock_10 (by decide) ?_
  refine lv_isub hx hb dX8_isLock_11 ?_
  refine tpi (pk_sub (a := 1 * 2 ^ (wn w)) (b := 1) (by omega)) ?_
  refine tpi (by rw [Nat.one_mul]) ?_
  refine lv_icmp_eq (tgt := 17) hx hb dX8_isLock_12 (by decide) (fun c_12 => ?_) (fun c_12 => ?_)
  · skip
    have c_12 := (nI_eq (by omega) (by omega)).mp c_12
    refine lv_iconst (v := nI (0)) hx hb dX8_isLock_17 (by decide) ?_
    refine lv_istore_n (lv' := [(1, .int (nI (0))), (0, .ref (ad k))]) hx hb dX8_isLock_18 rfl hl (by decide) rfl (fun ls hl => ?_)
    have L19 : ∀ (fu : Nat) (i : Nat), (i ≤ wn w) → (∀ j, j < i → wo w / 2 ^ (8 * j) % 256 ≠ 0 ∧ tab (wn w) (wo w) j ≠ 0) → (wn w - i) < fu → ∀ (ls : Array Slot), lv_has ls 2 [(1, .int (nI (i))), (0, .ref (ad k))] → W p l e (rmF 3 67) s m [.ref (ad k)].toArray below meth c s.heap [] 0 0 (MQ below (vp_Si (fun r => r = if (wh w = 2 ^ wn w - 1 ∧ ∀ i, i < wn w → wo w / 2 ^ (8 * i) % 256 ≠ 0 ∧ tab (wn w) (wo w) i ≠ 0) then 1 else 0)) [.ref (ad k)].toArray s 0 0 (fun _ => False)) (F0 m 19 ls []) := by
      intro fu
      induction fu with
      | zero => intro i hi hall hms ls hl; exact absurd hms (Nat.not_lt_zero _)
      | succ fu ih19 =>
        intro i hi hall hms ls hl
        refine lv_iload_n hx hb dX8_isLock_19 rfl (lv_at hl 0 rfl) ?_
        refine lv_aload_n hx hb dX8_isLock_20 rfl (lv_at hl 1 rfl) ?_
        refine mg S hK hP hk hg fd_X8_15 rfl dX8_isLock_21 ?_
        refine lv_icmp_ge (tgt := 51) hx hb dX8_isLock_24 (by decide) (fun c_24 => ?_) (fun c_24 => ?_)
        · skip
          have c_24 := (nI_leI (by omega) (by omega)).mp c_24
          refine lv_iconst (v := nI (1)) hx hb dX8_isLock_51 (by decide) ?_
          exact rSz S hr hlk (by first | exact Or.inl rfl | exact Or.inr rfl) (ifT ⟨c_12, fun j hj => hall j (by omega)⟩) dX8_isLock_52
        · skip
          have c_24 := (not_congr (nI_leI (by omega) (by omega))).mp c_24
          refine lv_aload_n hx hb dX8_isLock_27 rfl (lv_at hl 1 rfl) ?_
          refine lv_iload_n hx hb dX8_isLock_28 rfl (lv_at hl 0 rfl) ?_
          refine kVi (As := [.int (nI (i))]) (rest := []) S hK hP (c_X8_thoseBelow l D cy ad N g k hk (wn w) (wd w) (wf w) (wh w) (wo w) hg hn4 hn8 ho i (by omega)) cv_X8_99 hk hg ⟨_, _, rfl⟩ ⟨rfl, rfl⟩ rfl hl.1 rfl (Nat.le_of_ble_eq_true rfl) ⟨Nat.zero_le _, Nat.zero_le _⟩ dX8_isLock_29 (fun r_29 q_29 => ?_)
          subst q_29
          have hz4 : wo w / 2 ^ (8 * i) % 256 < 256 := Nat.mod_lt _ (by omega)
          refine lv_if_eq (tgt := 43) hx hb dX8_isLock_32 (by decide) (fun c_32 => ?_) (fun c_32 => ?_)
          · skip
            have c_32 := (z_eq (by omega)).mp c_32
            refine lv_iconst (v := nI (0)) hx hb dX8_isLock_43 (by decide) ?_
            exact rSz S hr hlk (by first | exact Or.inl rfl | exact Or.inr rfl) (ifF (fun q => by first | exact (q.2 i (by omega)).1 c_32 | exact (q.2 i (by omega)).2 c_40)) dX8_isLock_44
          · skip
            have c_32 := (not_congr (z_eq (by omega))).mp c_32
            refine lv_aload_n hx hb dX8_isLock_35 rfl (lv_at hl 1 rfl) ?_
            refine lv_iload_n hx hb dX8_isLock_36 rfl (lv_at hl 0 rfl) ?_
            refine kVi (As := [.int (nI (i))]) (rest := []) S hK hP (c_X8_thoseAbove l D cy ad N g k hk (wn w) (wd w) (wf w) (wh w) (wo w) hg hn4 hn8 ho i (by omega)) cv_X8_102 hk hg ⟨_, _, rfl⟩ ⟨rfl, rfl⟩ rfl hl.1 rfl (Nat.le_of_ble_eq_true rfl) ⟨Nat.zero_le _, Nat.zero_le _⟩ dX8_isLock_37 (fun r_37 q_37 => ?_)
            subst q_37
            have hz5 := tab_lt (o := wo w) (i := i) hn8
            refine lv_if_ne (tgt := 45) hx hb dX8_isLock_40 (by decide) (fun c_40 => ?_) (fun c_40 => ?_)
            · skip
              have c_40 := (not_congr (z_eq (by omega))).mp c_40
              refine lv_iinc (v := nI (i + 1)) (lv' := [(1, .int (nI (i + 1))), (0, .ref (ad k))]) hx hb dX8_isLock_45 hl (k := 0) rfl (by exact nI_add i 1) (by decide) rfl (fun ls hl => ?_)
              refine lv_goto (tgt := 19) hx hb dX8_isLock_48 (by decide) ?_
              exact ih19 (i + 1) (by omega) (lt_sn hall ⟨c_32, c_40⟩) (by omega) _ (lv_sub hl [0, 1] rfl)
            · skip
              have c_40 := (z_eq (by omega)).mp c_40
              refine lv_iconst (v := nI (0)) hx hb dX8_isLock_43 (by decide) ?_
              exact rSz S hr hlk (by first | exact Or.inl rfl | exact Or.inr rfl) (ifF (fun q => by first | exact (q.2 i (by omega)).1 c_32 | exact (q.2 i (by omega)).2 c_40)) dX8_isLock_44
    exact L19 ((wn w - 0) + 1) 0 (by omega) (fun j q => absurd q (Nat.not_lt_zero _)) (Nat.lt_succ_self _) _ (lv_sub hl [0, 1] rfl)
  · skip
    have c_12 := (not_congr (nI_eq (by omega) (by omega))).mp c_12
    refine lv_iconst (v := nI (0)) hx hb dX8_isLock_15 (by decide) ?_
    exact rSz S hr hlk (by first | exact Or.inl rfl | exact Or.inr rfl) (ifF (fun q => c_12 q.1)) dX8_isLock_16
set_option maxHeartbeats 4000000 in
set_option maxRecDepth 100000 in
theorem c_X8_star (l : Launch) (D : va_G) (cy : Nat → ClassId) (ad : Nat → Nat) (N : Nat) (g : Nat → va_E) (k : Nat) (hk : k < N) (w : WT) (hg : g k = .inr (8, [.int (nI (wn w)), .long (lN (sea (wd w) (wn w))), .int (nI (wf w)), .int (nI (wh w)), .long (lN (wo w))])) (hw : WOK w) : Met l yX8_star (WS yX8_star cX8_star 3 (some .int)) (rmF 1 22) (PP [.ref (ad k)] D cy ad N g) (vp_Si (fun r => r = if (2 ≤ su (wn w) (wp w 0) (wp w 1) ∧ su (wn w) (wp w 0) (wp w 1) ≤ wn w - 2 ∧ ∀ i, i < wn w → su (wn w) (wp w i) (wp w (nx (wn w) i)) = su (wn w) (wp w 0) (wp w 1)) then nI (su (wn w) (wp w 0) (wp w 1)) else -4)) 0 0 (fun _ => False) := by
  refine mentry (by decide) (Nat.le_of_ble_eq_true rfl) (fun p e s m below meth c ls S hr hlk hnm hP hK hl => ?_)
  have S : CallFix p m c cX8_star 3 s _ wsL_law RX8 := S
  have hx := S.1
  have hb := S.2.1
  have hl : lv_has ls 3 [(0, .ref (ad k))] := hl
  have hn4 := hw.1.1
  have hn8 := hw.1.2
  have hpm := hw.2.1
  have hda := hpm.1
  have hf := lt256 hw.2.2.1 hn8
  have hh := lt256 hw.2.2.2.1 hn8
  have ho := hw.2.2.2.2.1
  have hp0 := hpm.2.1 0 (by omega)
  have hp1 := hpm.2.1 1 (by omega)
  have hsu := su_lt hp0 hp1
  refine lv_aload_n hx hb dX8_star_0 rfl (lv_at hl 0 rfl) ?_
  refine lv_aload_n hx hb dX8_star_1 rfl (lv_at hl 0 rfl) ?_
  refine lv_iconst (v := nI (0)) hx hb dX8_star_2 (by decide) ?_
  refine kVi (As := [.int (nI (0))]) (rest := [.ref (ad k)]) S hK hP (c_X8_placeOf l D cy ad N g k hk (wn w) (wd w) (wf w) (wh w) (wo w) hg hn4 hn8 (wp w) hpm 0 (by omega)) cv_X8_43 hk hg ⟨_, _, rfl⟩ ⟨rfl, rfl⟩ rfl hl.1 rfl (Nat.le_of_ble_eq_true rfl) ⟨Nat.zero_le _, Nat.zero_le _⟩ dX8_star_3 (fun r_3 q_3 => ?_)
  subst q_3
  refine lv_aload_n hx hb dX8_star_6 rfl (lv_at hl 0 rfl) ?_
  refine lv_iconst (v := nI (1)) hx hb dX8_star_7 (by decide) ?_
  refine kVi (As := [.int (nI (1))]) (rest := [.int (nI ((wp w) 0)), .ref (ad k)]) S hK hP (c_X8_placeOf l D cy ad N g k hk (wn w) (wd w) (wf w) (wh w) (wo w) hg hn4 hn8 (wp w) hpm 1 (by omega)) cv_X8_43 hk hg ⟨_, _, rfl⟩ ⟨rfl, rfl⟩ rfl hl.1 rfl (Nat.le_of_ble_eq_true rfl) ⟨Nat.zero_le _, Nat.zero_le _⟩ dX8_star_8 (fun r_8 q_8 => ?_)
  subst q_8
  refine kVi (As := [.int (nI ((wp w) 0)), .int (nI ((wp w) 1))]) (rest := []) S hK hP (c_X8_stepsUp l D cy ad N g k hk (wn w) (wd w) (wf w) (wh w) (wo w) hg hn4 hn8 ((wp w) 0) ((wp w) 1) (by omega) (by omega)) cv_X8_95 hk hg ⟨_, _, rfl⟩ ⟨rfl, rfl⟩ rfl hl.1 rfl (Nat.le_of_ble_eq_true rfl) ⟨Nat.zero_le _, Nat.zero_le _⟩ dX8_star_11 (fun r_11 q_11 => ?_)
  subst q_11
  refine lv_istore_n (lv' := [(1, .int (nI (su (wn w) ((wp w) 0) ((wp w) 1)))), (0, .ref (ad k))]) hx hb dX8_star_14 rfl hl (by decide) rfl (fun ls hl => ?_)
  refine lv_iload_n hx hb dX8_star_15 rfl (lv_at hl 0 rfl) ?_
  refine lv_iconst (v := nI (2)) hx hb dX8_star_16 (by decide) ?_
  refine lv_icmp_lt (tgt := 30) hx hb dX8_star_17 (by decide) (fun c_17 => ?_) (fun c_17 => ?_)
  · skip
    have c_17 := (nI_ltI (by omega) (by omega)).mp c_17
    refine lv_bipush (v := (-4)) hx hb dX8_star_30 (by decide) ?_
    exact rSi S hr hlk (by show _ = ite _ _ _; rw [if_neg]; rintro ⟨q1, q2, q3⟩; omega) dX8_star_32
  · skip
    have c_17 := (not_congr (nI_ltI (by omega) (by omega))).mp c_17
    refine lv_iload_n hx hb dX8_star_20 rfl (lv_at hl 0 rfl) ?_
    refine lv_aload_n hx hb dX8_star_21 rfl (lv_at hl 1 rfl) ?_
    refine mg S hK hP hk hg fd_X8_15 rfl dX8_star_22 ?_
    refine lv_iconst (v := nI (2)) hx hb dX8_star_25 (by decide) ?_
    refine lv_isub hx hb dX8_star_26 ?_
    refine tpi (pk_sub (a := wn w) (b := 2) (by omega)) ?_
    refine lv_icmp_le (tgt := 33) hx hb dX8_star_27 (by decide) (fun c_27 => ?_) (fun c_27 => ?_)
    · skip
      have c_27 := (nI_leI (by omega) (by omega)).mp c_27
      refine lv_iconst (v := nI (1)) hx hb dX8_star_33 (by decide) ?_
      refine lv_istore_n (lv' := [(2, .int (nI (1))), (1, .int (nI (su (wn w) ((wp w) 0) ((wp w) 1)))), (0, .ref (ad k))]) hx hb dX8_star_34 rfl hl (by decide) rfl (fun ls hl => ?_)
      have L35 : ∀ (fu : Nat) (i : Nat), (i ≤ wn w) → (1 ≤ i) → (∀ j, j < i → su (wn w) (wp w j) (wp w (nx (wn w) j)) = su (wn w) (wp w 0) (wp w 1)) → (wn w - i) < fu → ∀ (ls : Array Slot), lv_has ls 3 [(2, .int (nI (i))), (1, .int (nI (su (wn w) ((wp w) 0) ((wp w) 1)))), (0, .ref (ad k))] → W p l e (rmF 1 22) s m [.ref (ad k)].toArray below meth c s.heap [] 0 0 (MQ below (vp_Si (fun r => r = if (2 ≤ su (wn w) (wp w 0) (wp w 1) ∧ su (wn w) (wp w 0) (wp w 1) ≤ wn w - 2 ∧ ∀ i, i < wn w → su (wn w) (wp w i) (wp w (nx (wn w) i)) = su (wn w) (wp w 0) (wp w 1)) then nI (su (wn w) (wp w 0) (wp w 1)) else -4)) [.ref (ad k)].toArray s 0 0 (fun _ => False)) (F0 m 35 ls []) := by
        intro fu
        induction fu with
        | zero => intro i hi hi1 hall hms ls hl; exact absurd hms (Nat.not_lt_zero _)
        | succ fu ih35 =>
          intro i hi hi1 hall hms ls hl
          refine lv_iload_n hx hb dX8_star_35 rfl (lv_at hl 0 rfl) ?_
          refine lv_aload_n hx hb dX8_star_36 rfl (lv_at hl 2 rfl) ?_
          refine mg S hK hP hk hg fd_X8_15 rfl dX8_star_37 ?_
          refine lv_icmp_ge (tgt := 74) hx hb dX8_star_40 (by decide) (fun c_40 => ?_) (fun c_40 => ?_)
          · skip
            have c_40 := (nI_leI (by omega) (by omega)).mp c_40
            refine lv_iload_n hx hb dX8_star_74 rfl (lv_at hl 1 rfl) ?_
            exact rSi S hr hlk (by show _ = ite _ _ _; rw [if_pos ⟨by omega, by omega, fun j hj => hall j (by omega)⟩]) dX8_star_75
          · skip
            have c_40 := (not_congr (nI_leI (by omega) (by omega))).mp c_40
            refine lv_aload_n hx hb dX8_star_43 rfl (lv_at hl 2 rfl) ?_
            refine lv_aload_n hx hb dX8_star_44 rfl (lv_at hl 2 rfl) ?_
            refine lv_iload_n hx hb dX8_star_45 rfl (lv_at hl 0 rfl) ?_
            refine kVi (As := [.int (nI (i))]) (rest := [.ref (ad k)]) S hK hP (c_X8_placeOf l D cy ad N g k hk (wn w) (wd w) (wf w) (wh w) (wo w) hg hn4 hn8 (wp w) hpm i (by omega)) cv_X8_43 hk hg ⟨_, _, rfl⟩ ⟨rfl, rfl⟩ rfl hl.1 rfl (Nat.le_of_ble_eq_true rfl) ⟨Nat.zero_le _, Nat.zero_le _⟩ dX8_star_46 (fun r_46 q_46 => ?_)
            subst q_46
            refine lv_aload_n hx hb dX8_star_49 rfl (lv_at hl 2 rfl) ?_
            refine lv_aload_n hx hb dX8_star_50 rfl (lv_at hl 2 rfl) ?_
            refine lv_iload_n hx hb dX8_star_51 rfl (lv_at hl 0 rfl) ?_
            refine kVi (As := [.int (nI (i))]) (rest := [.ref (ad k), .int (nI ((wp w) i)), .ref (ad k)]) S hK hP (c_X8_next l D cy ad N g k hk (wn w) (wd w) (wf w) (wh w) (wo w) hg hn4 hn8 i (by omega)) cv_X8_75 hk hg ⟨_, _, rfl⟩ ⟨rfl, rfl⟩ rfl hl.1 rfl (Nat.le_of_ble_eq_true rfl) ⟨Nat.zero_le _, Nat.zero_le _⟩ dX8_star_52 (fun r_52 q_52 => ?_)
            subst q_52
            have hnxi := nx_lt (n := wn w) (i := i) hn4 (by omega)
            refine kVi (As := [.int (nI (nx (wn w) i))]) (rest := [.int (nI ((wp w) i)), .ref (ad k)]) S hK hP (c_X8_placeOf l D cy ad N g k hk (wn w) (wd w) (wf w) (wh w) (wo w) hg hn4 hn8 (wp w) hpm (nx (wn w) i) hnxi) cv_X8_43 hk hg ⟨_, _, rfl⟩ ⟨rfl, rfl⟩ rfl hl.1 rfl (Nat.le_of_ble_eq_true rfl) ⟨Nat.zero_le _, Nat.zero_le _⟩ dX8_star_55 (fun r_55 q_55 => ?_)
            subst q_55
            have hsi := su_lt (hpm.2.1 i (by omega)) (hpm.2.1 _ hnxi)
            refine kVi (As := [.int (nI ((wp w) i)), .int (nI ((wp w) (nx (wn w) i)))]) (rest := []) S hK hP (c_X8_stepsUp l D cy ad N g k hk (wn w) (wd w) (wf w) (wh w) (wo w) hg hn4 hn8 ((wp w) i) ((wp w) (nx (wn w) i)) (hpm.2.1 i (by omega)) (hpm.2.1 _ hnxi)) cv_X8_95 hk hg ⟨_, _, rfl⟩ ⟨rfl, rfl⟩ rfl hl.1 rfl (Nat.le_of_ble_eq_true rfl) ⟨Nat.zero_le _, Nat.zero_le _⟩ dX8_star_58 (fun r_58 q_58 => ?_)
            subst q_58
            refine lv_iload_n hx hb dX8_star_61 rfl (lv_at hl 1 rfl) ?_
            refine lv_icmp_eq (tgt := 68) hx hb dX8_star_62 (by decide) (fun c_62 => ?_) (fun c_62 => ?_)
            · skip
              have c_62 := (nI_eq (by omega) (by omega)).mp c_62
              refine lv_iinc (v := nI (i + 1)) (lv' := [(2, .int (nI (i + 1))), (1, .int (nI (su (wn w) ((wp w) 0) ((wp w) 1)))), (0, .ref (ad k))]) hx hb dX8_star_68 hl (k := 0) rfl (by exact nI_add i 1) (by decide) rfl (fun ls hl => ?_)
              refine lv_goto (tgt := 35) hx hb dX8_star_71 (by decide) ?_
              exact ih35 (i + 1) (by omega) (by omega) (lt_sn hall c_62) (by omega) _ (lv_sub hl [0, 1, 2] rfl)
            · skip
              have c_62 := (not_congr (nI_eq (by omega) (by omega))).mp c_62
              refine lv_bipush (v := (-4)) hx hb dX8_star_65 (by decide) ?_
              exact rSi S hr hlk (by show _ = ite _ _ _; rw [if_neg]; rintro ⟨q1, q2, q3⟩; exact c_62 (q3 i (by omega))) dX8_star_67
      exact L35 ((wn w - 1) + 1) 1 (by omega) (by omega) (fun j q => by have e : j = 0 := (by omega); subst e; rw [show nx (wn w) 0 = 1 from if_pos (by omega)]) (Nat.lt_succ_self _) _ (lv_sub hl [0, 1, 2] rfl)
    · skip
      have c_27 := (not_congr (nI_leI (by omega) (by omega))).mp c_27
      refine lv_bipush (v := (-4)) hx hb dX8_star_30 (by decide) ?_
      exact rSi S hr hlk (by show _ = ite _ _ _; rw [if_neg]; rintro ⟨q1, q2, q3⟩; omega) dX8_star_32
set_option maxHeartbeats 4000000 in
set_option maxRecDepth 100000 in
theorem c_X8_turns (l : Launch) (D : va_G) (cy : Nat → ClassId) (ad : Nat → Nat) (N : Nat) (g : Nat → va_E) (k : Nat) (hk : k < N) (w : WT) (hg : g k = .inr (8, [.int (nI (wn w)), .long (lN (sea (wd w) (wn w))), .int (nI (wf w)), .int (nI (wh w)), .long (lN (wo w))])) (hw : WOK w) : Met l yX8_turns (WS yX8_turns cX8_turns 7 (some .int)) (rmF 2 44) (PP [.ref (ad k)] D cy ad N g) (vp_Si (fun r => r = tOut (wn w) (wp w) (wo w) (wn w))) 0 0 (fun _ => False) := by
  refine mentry (by decide) (Nat.le_of_ble_eq_true rfl) (fun p e s m below meth c ls S hr hlk hnm hP hK hl => ?_)
  have S : CallFix p m c cX8_turns 7 s _ wsL_law RX8 := S
  have hx := S.1
  have hb := S.2.1
  have hl : lv_has ls 7 [(0, .ref (ad k))] := hl
  have hn4 := hw.1.1
  have hn8 := hw.1.2
  have hpm := hw.2.1
  have hda := hpm.1
  have hf := lt256 hw.2.2.1 hn8
  have hh := lt256 hw.2.2.2.1 hn8
  have ho := hw.2.2.2.2.1
  refine lv_iconst (v := nI (0)) hx hb dX8_turns_0 (by decide) ?_
  refine lv_istore_n (lv' := [(1, .int (nI (0))), (0, .ref (ad k))]) hx hb dX8_turns_1 rfl hl (by decide) rfl (fun ls hl => ?_)
  refine lv_iconst (v := nI (0)) hx hb dX8_turns_2 (by decide) ?_
  refine lv_istore_n (lv' := [(2, .int (nI (0))), (1, .int (nI (0))), (0, .ref (ad k))]) hx hb dX8_turns_3 rfl hl (by decide) rfl (fun ls hl => ?_)
  have L4 : ∀ (fu : Nat) (u : Nat) (s1 : Int32), (u ≤ wn w) → (s1 = tOut (wn w) (wp w) (wo w) u) → (wn w - u) < fu → ∀ (ls : Array Slot), lv_has ls 7 [(2, .int (nI (u))), (1, .int s1), (0, .ref (ad k))] → W p l e (rmF 2 44) s m [.ref (ad k)].toArray below meth c s.heap [] 0 0 (MQ below (vp_Si (fun r => r = tOut (wn w) (wp w) (wo w) (wn w))) [.ref (ad k)].toArray s 0 0 (fun _ => False)) (F0 m 4 ls []) := by
    intro fu
    induction fu with
    | zero => intro u s1 hu hs hms ls hl; exact absurd hms (Nat.not_lt_zero _)
    | succ fu ih4 =>
      intro u s1 hu hs hms ls hl
      refine lv_iload_n hx hb dX8_turns_4 rfl (lv_at hl 0 rfl) ?_
      refine lv_aload_n hx hb dX8_turns_5 rfl (lv_at hl 2 rfl) ?_
      refine mg S hK hP hk hg fd_X8_15 rfl dX8_turns_6 ?_
      refine lv_icmp_ge (tgt := 101) hx hb dX8_turns_9 (by decide) (fun c_9 => ?_) (fun c_9 => ?_)
      · skip
        have c_9 := (nI_leI (by omega) (by omega)).mp c_9
        refine lv_iload_n hx hb dX8_turns_101 rfl (lv_at hl 1 rfl) ?_
        exact rSi S hr hlk (by have e : u = wn w := (by omega); rw [hs, e]) dX8_turns_102
      · skip
        have c_9 := (not_congr (nI_leI (by omega) (by omega))).mp c_9
        refine lv_aload_n hx hb dX8_turns_12 rfl (lv_at hl 2 rfl) ?_
        refine lv_iload_n hx hb dX8_turns_13 rfl (lv_at hl 0 rfl) ?_
        refine kVi (As := [.int (nI (u))]) (rest := []) S hK hP (c_X8_placeOf l D cy ad N g k hk (wn w) (wd w) (wf w) (wh w) (wo w) hg hn4 hn8 (wp w) hpm u (by first | omega | exact hnu | exact hnv)) cv_X8_43 hk hg ⟨_, _, rfl⟩ ⟨rfl, rfl⟩ rfl hl.1 rfl (Nat.le_of_ble_eq_true rfl) ⟨Nat.zero_le _, Nat.zero_le _⟩ dX8_turns_14 (fun r_14 q_14 => ?_)
        subst q_14
        have hnu := nx_lt (n := wn w) (i := u) hn4 (by omega)
        have hpu := hpm.2.1 u (by omega)
        have hpnu := hpm.2.1 _ hnu
        refine lv_istore_n (lv' := [(3, .int (nI ((wp w) u))), (2, .int (nI (u))), (1, .int s1), (0, .ref (ad k))]) hx hb dX8_turns_17 rfl hl (by decide) rfl (fun ls hl => ?_)
        refine lv_aload_n hx hb dX8_turns_18 rfl (lv_at hl 3 rfl) ?_
        refine lv_aload_n hx hb dX8_turns_19 rfl (lv_at hl 3 rfl) ?_
        refine lv_iload_n hx hb dX8_turns_20 rfl (lv_at hl 1 rfl) ?_
        refine kVi (As := [.int (nI (u))]) (rest := [.ref (ad k)]) S hK hP (c_X8_next l D cy ad N g k hk (wn w) (wd w) (wf w) (wh w) (wo w) hg hn4 hn8 u (by omega)) cv_X8_75 hk hg ⟨_, _, rfl⟩ ⟨rfl, rfl⟩ rfl hl.1 rfl (Nat.le_of_ble_eq_true rfl) ⟨Nat.zero_le _, Nat.zero_le _⟩ dX8_turns_21 (fun r_21 q_21 => ?_)
        subst q_21
        refine kVi (As := [.int (nI (nx (wn w) u))]) (rest := []) S hK hP (c_X8_placeOf l D cy ad N g k hk (wn w) (wd w) (wf w) (wh w) (wo w) hg hn4 hn8 (wp w) hpm (nx (wn w) u) (by first | omega | exact hnu | exact hnv)) cv_X8_43 hk hg ⟨_, _, rfl⟩ ⟨rfl, rfl⟩ rfl hl.1 rfl (Nat.le_of_ble_eq_true rfl) ⟨Nat.zero_le _, Nat.zero_le _⟩ dX8_turns_24 (fun r_24 q_24 => ?_)
        subst q_24
        refine lv_istore (lv' := [(4, .int (nI ((wp w) (nx (wn w) u)))), (3, .int (nI ((wp w) u))), (2, .int (nI (u))), (1, .int s1), (0, .ref (ad k))]) hx hb dX8_turns_27 hl (by decide) rfl (fun ls hl => ?_)
        refine lv_iconst (v := nI (0)) hx hb dX8_turns_29 (by decide) ?_
        refine lv_istore (lv' := [(5, .int (nI (0))), (4, .int (nI ((wp w) (nx (wn w) u)))), (3, .int (nI ((wp w) u))), (2, .int (nI (u))), (1, .int s1), (0, .ref (ad k))]) hx hb dX8_turns_30 hl (by decide) rfl (fun ls hl => ?_)
        have L32 : ∀ (fu : Nat) (v : Nat) (s2 : Int32), (v ≤ wn w) → (s2 = tIn (wn w) (wp w) (wo w) u v s1) → (wn w - v) < fu → ∀ (ls : Array Slot), lv_has ls 7 [(5, .int (nI (v))), (4, .int (nI ((wp w) (nx (wn w) u)))), (3, .int (nI ((wp w) u))), (2, .int (nI (u))), (1, .int s2), (0, .ref (ad k))] → W p l e (rmF 2 44) s m [.ref (ad k)].toArray below meth c s.heap [] 0 0 (MQ below (vp_Si (fun r => r = tOut (wn w) (wp w) (wo w) (wn w))) [.ref (ad k)].toArray s 0 0 (fun _ => False)) (F0 m 32 ls []) := by
          intro fu
          induction fu with
          | zero => intro v s2 hv hs2 hms ls hl; exact absurd hms (Nat.not_lt_zero _)
          | succ fu ih32 =>
            intro v s2 hv hs2 hms ls hl
            refine lv_iload hx hb dX8_turns_32 (lv_at hl 0 rfl) ?_
            refine lv_aload_n hx hb dX8_turns_34 rfl (lv_at hl 5 rfl) ?_
            refine mg S hK hP hk hg fd_X8_15 rfl dX8_turns_35 ?_
            refine lv_icmp_ge (tgt := 95) hx hb dX8_turns_38 (by decide) (fun c_38 => ?_) (fun c_38 => ?_)
            · skip
              have c_38 := (nI_leI (by omega) (by omega)).mp c_38
              refine lv_iinc (v := nI (u + 1)) (lv' := [(2, .int (nI (u + 1))), (5, .int (nI (v))), (4, .int (nI ((wp w) (nx (wn w) u)))), (3, .int (nI ((wp w) u))), (1, .int s2), (0, .ref (ad k))]) hx hb dX8_turns_95 hl (k := 3) rfl (by exact nI_add u 1) (by decide) rfl (fun ls hl => ?_)
              refine lv_goto (tgt := 4) hx hb dX8_turns_98 (by decide) ?_
              exact ih4 (u + 1) s2 (by omega) (by have e : v = wn w := (by omega); subst e; rw [hs2, hs]; rfl) (by omega) _ (lv_sub hl [0, 4, 5] rfl)
            · skip
              have c_38 := (not_congr (nI_leI (by omega) (by omega))).mp c_38
              refine lv_aload_n hx hb dX8_turns_41 rfl (lv_at hl 5 rfl) ?_
              refine lv_iload_n hx hb dX8_turns_42 rfl (lv_at hl 3 rfl) ?_
              refine lv_iload hx hb dX8_turns_43 (lv_at hl 0 rfl) ?_
              refine kVi (As := [.int (nI (u)), .int (nI (v))]) (rest := []) S hK hP (c_X8_lies l D cy ad N g k hk (wn w) (wd w) (wf w) (wh w) (wo w) hg hn4 hn8 ho u v (by omega) (by omega)) cv_X8_55 hk hg ⟨_, _, rfl⟩ ⟨rfl, rfl⟩ rfl hl.1 rfl (Nat.le_of_ble_eq_true rfl) ⟨Nat.zero_le _, Nat.zero_le _⟩ dX8_turns_45 (fun r_45 q_45 => ?_)
              subst q_45
              refine lv_if_eq (tgt := 89) hx hb dX8_turns_48 (by decide) (fun c_48 => ?_) (fun c_48 => ?_)
              · skip
                have c_48 := bz_eq.mp c_48
                refine lv_iinc (v := nI (v + 1)) (lv' := [(5, .int (nI (v + 1))), (4, .int (nI ((wp w) (nx (wn w) u)))), (3, .int (nI ((wp w) u))), (2, .int (nI (u))), (1, .int s2), (0, .ref (ad k))]) hx hb dX8_turns_89 hl (k := 0) rfl (by exact nI_add v 1) (by decide) rfl (fun ls hl => ?_)
                refine lv_goto (tgt := 32) hx hb dX8_turns_92 (by decide) ?_
                exact ih32 (v + 1) s2 (by omega) (by first | exact (tIn_f c_48 hs2) | (have q := tIn_b c_48 hs2 c_79; exact q) | (have q := tIn_a c_48 hs2 c_79; exact q)) (by omega) _ (lv_sub hl [0, 1, 2, 3, 4, 5] rfl)
              · skip
                have c_48 := bz_ne.mp c_48
                refine lv_aload_n hx hb dX8_turns_51 rfl (lv_at hl 5 rfl) ?_
                refine lv_aload_n hx hb dX8_turns_52 rfl (lv_at hl 5 rfl) ?_
                refine lv_iload hx hb dX8_turns_53 (lv_at hl 0 rfl) ?_
                refine kVi (As := [.int (nI (v))]) (rest := [.ref (ad k)]) S hK hP (c_X8_next l D cy ad N g k hk (wn w) (wd w) (wf w) (wh w) (wo w) hg hn4 hn8 v (by omega)) cv_X8_75 hk hg ⟨_, _, rfl⟩ ⟨rfl, rfl⟩ rfl hl.1 rfl (Nat.le_of_ble_eq_true rfl) ⟨Nat.zero_le _, Nat.zero_le _⟩ dX8_turns_55 (fun r_55 q_55 => ?_)
                subst q_55
                have hnv := nx_lt (n := wn w) (i := v) hn4 (by omega)
                have hpnv := hpm.2.1 _ hnv
                have hs3 := su_lt hpnu hpnv
                have hs4 := su_lt hpnu hpu
                refine kVi (As := [.int (nI (nx (wn w) v))]) (rest := []) S hK hP (c_X8_placeOf l D cy ad N g k hk (wn w) (wd w) (wf w) (wh w) (wo w) hg hn4 hn8 (wp w) hpm (nx (wn w) v) (by first | omega | exact hnu | exact hnv)) cv_X8_43 hk hg ⟨_, _, rfl⟩ ⟨rfl, rfl⟩ rfl hl.1 rfl (Nat.le_of_ble_eq_true rfl) ⟨Nat.zero_le _, Nat.zero_le _⟩ dX8_turns_58 (fun r_58 q_58 => ?_)
                subst q_58
                refine lv_istore (lv' := [(6, .int (nI ((wp w) (nx (wn w) v)))), (5, .int (nI (v))), (4, .int (nI ((wp w) (nx (wn w) u)))), (3, .int (nI ((wp w) u))), (2, .int (nI (u))), (1, .int s2), (0, .ref (ad k))]) hx hb dX8_turns_61 hl (by decide) rfl (fun ls hl => ?_)
                refine lv_iload_n hx hb dX8_turns_63 rfl (lv_at hl 5 rfl) ?_
                refine lv_aload_n hx hb dX8_turns_64 rfl (lv_at hl 6 rfl) ?_
                refine lv_iload hx hb dX8_turns_65 (lv_at hl 2 rfl) ?_
                refine lv_iload hx hb dX8_turns_67 (lv_at hl 0 rfl) ?_
                refine kVi (As := [.int (nI ((wp w) (nx (wn w) u))), .int (nI ((wp w) (nx (wn w) v)))]) (rest := [.int s2]) S hK hP (c_X8_stepsUp l D cy ad N g k hk (wn w) (wd w) (wf w) (wh w) (wo w) hg hn4 hn8 ((wp w) (nx (wn w) u)) ((wp w) (nx (wn w) v)) (by first | exact hnpu | exact hpnu) (by first | exact hpnv | exact hpu)) cv_X8_95 hk hg ⟨_, _, rfl⟩ ⟨rfl, rfl⟩ rfl hl.1 rfl (Nat.le_of_ble_eq_true rfl) ⟨Nat.zero_le _, Nat.zero_le _⟩ dX8_turns_69 (fun r_69 q_69 => ?_)
                subst q_69
                refine lv_aload_n hx hb dX8_turns_72 rfl (lv_at hl 6 rfl) ?_
                refine lv_iload hx hb dX8_turns_73 (lv_at hl 2 rfl) ?_
                refine lv_iload_n hx hb dX8_turns_75 rfl (lv_at hl 3 rfl) ?_
                refine kVi (As := [.int (nI ((wp w) (nx (wn w) u))), .int (nI ((wp w) u))]) (rest := [.int (nI (su (wn w) ((wp w) (nx (wn w) u)) ((wp w) (nx (wn w) v)))), .int s2]) S hK hP (c_X8_stepsUp l D cy ad N g k hk (wn w) (wd w) (wf w) (wh w) (wo w) hg hn4 hn8 ((wp w) (nx (wn w) u)) ((wp w) u) (by first | exact hnpu | exact hpnu) (by first | exact hpnv | exact hpu)) cv_X8_95 hk hg ⟨_, _, rfl⟩ ⟨rfl, rfl⟩ rfl hl.1 rfl (Nat.le_of_ble_eq_true rfl) ⟨Nat.zero_le _, Nat.zero_le _⟩ dX8_turns_76 (fun r_76 q_76 => ?_)
                subst q_76
                refine lv_icmp_ge (tgt := 86) hx hb dX8_turns_79 (by decide) (fun c_79 => ?_) (fun c_79 => ?_)
                · skip
                  have c_79 := (nI_leI (by omega) (by omega)).mp c_79
                  refine lv_iconst (v := (-1)) hx hb dX8_turns_86 (by decide) ?_
                  refine lv_iadd hx hb dX8_turns_87 ?_
                  refine lv_istore_n (lv' := [(1, .int (s2 + (-1))), (6, .int (nI ((wp w) (nx (wn w) v)))), (5, .int (nI (v))), (4, .int (nI ((wp w) (nx (wn w) u)))), (3, .int (nI ((wp w) u))), (2, .int (nI (u))), (0, .ref (ad k))]) hx hb dX8_turns_88 rfl hl (by decide) rfl (fun ls hl => ?_)
                  refine lv_iinc (v := nI (v + 1)) (lv' := [(5, .int (nI (v + 1))), (1, .int (s2 + (-1))), (6, .int (nI ((wp w) (nx (wn w) v)))), (4, .int (nI ((wp w) (nx (wn w) u)))), (3, .int (nI ((wp w) u))), (2, .int (nI (u))), (0, .ref (ad k))]) hx hb dX8_turns_89 hl (k := 2) rfl (by exact nI_add v 1) (by decide) rfl (fun ls hl => ?_)
                  refine lv_goto (tgt := 32) hx hb dX8_turns_92 (by decide) ?_
                  exact ih32 (v + 1) (s2 + (-1)) (by omega) (by first | exact (tIn_f c_48 hs2) | (have q := tIn_b c_48 hs2 c_79; exact q) | (have q := tIn_a c_48 hs2 c_79; exact q)) (by omega) _ (lv_sub hl [0, 3, 4, 5, 1, 6] rfl)
                · skip
                  have c_79 := (not_congr (nI_leI (by omega) (by omega))).mp c_79
                  refine lv_iconst (v := nI (1)) hx hb dX8_turns_82 (by decide) ?_
                  refine lv_goto (tgt := 87) hx hb dX8_turns_83 (by decide) ?_
                  refine lv_iadd hx hb dX8_turns_87 ?_
                  refine lv_istore_n (lv' := [(1, .int (s2 + (nI (1)))), (6, .int (nI ((wp w) (nx (wn w) v)))), (5, .int (nI (v))), (4, .int (nI ((wp w) (nx (wn w) u)))), (3, .int (nI ((wp w) u))), (2, .int (nI (u))), (0, .ref (ad k))]) hx hb dX8_turns_88 rfl hl (by decide) rfl (fun ls hl => ?_)
                  refine lv_iinc (v := nI (v + 1)) (lv' := [(5, .int (nI (v + 1))), (1, .int (s2 + (nI (1)))), (6, .int (nI ((wp w) (nx (wn w) v)))), (4, .int (nI ((wp w) (nx (wn w) u)))), (3, .int (nI ((wp w) u))), (2, .int (nI (u))), (0, .ref (ad k))]) hx hb dX8_turns_89 hl (k := 2) rfl (by exact nI_add v 1) (by decide) rfl (fun ls hl => ?_)
                  refine lv_goto (tgt := 32) hx hb dX8_turns_92 (by decide) ?_
                  exact ih32 (v + 1) (s2 + (nI (1))) (by omega) (by first | exact (tIn_f c_48 hs2) | (have q := tIn_b c_48 hs2 c_79; exact q) | (have q := tIn_a c_48 hs2 c_79; exact q)) (by omega) _ (lv_sub hl [0, 3, 4, 5, 1, 6] rfl)
        exact L32 ((wn w - 0) + 1) 0 s1 (by omega) rfl (Nat.lt_succ_self _) _ (lv_sub hl [0, 1, 2, 3, 4, 5] rfl)
  exact L4 ((wn w - 0) + 1) 0 (nI (0)) (by omega) rfl (Nat.lt_succ_self _) _ (lv_sub hl [0, 1, 2] rfl)

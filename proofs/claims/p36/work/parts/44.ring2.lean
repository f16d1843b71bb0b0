set_option maxHeartbeats 4000000 in
set_option maxRecDepth 100000 in
theorem c_X9_isFigure (l : Launch) (D : va_G) (cy : Nat → ClassId) (ad : Nat → Nat) (N : Nat) (g : Nat → va_E) (hN : 114 ≤ N) (qc : Nat) (fc : Nat) (lf : Int32) (lt : Int32) (vc : Nat) (hX : g 0 = .inr (9, [.ref (ad 1), .ref (ad 17), .ref (ad 33), .ref (ad 34), .int (nI (qc)), .ref (ad 35), .ref (ad 45), .ref (ad 47), .ref (ad 52), .int (nI (fc)), .int lf, .int lt, .ref (ad 53), .int (nI (vc)), .ref (ad 54), .ref (ad 75)])) (ff : Nat → Option Nat) (hff : g 52 = .inl (cy 3, 8, .inr (.inr (.inr (.inr ff))))) (hfc : fc ≤ 8) (x0 : Int32) : Met l yX9_isFigure (WS yX9_isFigure cX9_isFigure 2 (some .boolean)) (rmF 0 0) (PP [.ref (ad 0), .int x0] D cy ad N g) (vp_Si (fun r => r = if isI x0 fc then 1 else 0)) 0 0 (fun _ => False) := by
  refine mentry (by decide) (Nat.le_of_ble_eq_true rfl) (fun p e s m below meth c ls S hr hlk hnm hP hK hl => ?_)
  have S : CallFix p m c cX9_isFigure 2 s _ wsL_law RX9 := S
  have hx := S.1
  have hb := S.2.1
  have hl : lv_has ls 2 [(0, .ref (ad 0)), (1, .int x0)] := hl
  refine lv_iload_n hx hb dX9_isFigure_0 rfl (lv_at hl 1 rfl) ?_
  refine lv_if_lt (tgt := 25) hx hb dX9_isFigure_1 (by decide) (fun c_1 => ?_) (fun c_1 => ?_)
  · skip
    have hJ : ¬ isI x0 fc := fun q => q.1 c_1
    refine lv_iconst (v := nI (0)) hx hb dX9_isFigure_25 (by decide) ?_
    exact rSz S hr hlk (by first | exact Or.inl rfl | exact Or.inr rfl) (ifF hJ) dX9_isFigure_26
  · skip
    obtain ⟨i, hib, rfl⟩ := nI_of c_1
    refine lv_iload_n hx hb dX9_isFigure_4 rfl (lv_at hl 1 rfl) ?_
    refine lv_aload_n hx hb dX9_isFigure_5 rfl (lv_at hl 0 rfl) ?_
    refine mg S hK hP (by omega) hX fd_X9_174 rfl dX9_isFigure_6 ?_
    refine lv_icmp_ge (tgt := 25) hx hb dX9_isFigure_9 (by decide) (fun c_9 => ?_) (fun c_9 => ?_)
    · skip
      have c_9 := (nI_leI (by omega) (by omega)).mp c_9
      have hJ : ¬ isI (nI i) fc := fun q => absurd ((isI_nI (by omega) (by omega)).mp q) (by omega)
      refine lv_iconst (v := nI (0)) hx hb dX9_isFigure_25 (by decide) ?_
      exact rSz S hr hlk (by first | exact Or.inl rfl | exact Or.inr rfl) (ifF hJ) dX9_isFigure_26
    · skip
      have c_9 := (not_congr (nI_leI (by omega) (by omega))).mp c_9
      refine lv_iload_n hx hb dX9_isFigure_12 rfl (lv_at hl 1 rfl) ?_
      refine lv_aload_n hx hb dX9_isFigure_13 rfl (lv_at hl 0 rfl) ?_
      refine mg S hK hP (by omega) hX fd_X9_53 rfl dX9_isFigure_14 ?_
      refine malen S hK hP (by omega) hff rfl (v := nI 8) rfl dX9_isFigure_17 ?_
      refine lv_icmp_ge (tgt := 25) hx hb dX9_isFigure_18 (by decide) (fun c_18 => ?_) (fun c_18 => ?_)
      · skip
        have c_18 := (nI_leI (by omega) (by omega)).mp c_18
        have hJ : ¬ isI (nI i) fc := fun q => absurd ((isI_nI (by omega) (by omega)).mp q) (by omega)
        refine lv_iconst (v := nI (0)) hx hb dX9_isFigure_25 (by decide) ?_
        exact rSz S hr hlk (by first | exact Or.inl rfl | exact Or.inr rfl) (ifF hJ) dX9_isFigure_26
      · skip
        have c_18 := (not_congr (nI_leI (by omega) (by omega))).mp c_18
        have hJ : isI (nI i) fc := (isI_nI (by omega) (by omega)).mpr (by omega)
        refine lv_iconst (v := nI (1)) hx hb dX9_isFigure_21 (by decide) ?_
        refine lv_goto (tgt := 26) hx hb dX9_isFigure_22 (by decide) ?_
        exact rSz S hr hlk (by first | exact Or.inl rfl | exact Or.inr rfl) (ifT hJ) dX9_isFigure_26
set_option maxHeartbeats 4000000 in
set_option maxRecDepth 100000 in
theorem c_X9_isVillage (l : Launch) (D : va_G) (cy : Nat → ClassId) (ad : Nat → Nat) (N : Nat) (g : Nat → va_E) (hN : 114 ≤ N) (qc : Nat) (fc : Nat) (lf : Int32) (lt : Int32) (vc : Nat) (hX : g 0 = .inr (9, [.ref (ad 1), .ref (ad 17), .ref (ad 33), .ref (ad 34), .int (nI (qc)), .ref (ad 35), .ref (ad 45), .ref (ad 47), .ref (ad 52), .int (nI (fc)), .int lf, .int lt, .ref (ad 53), .int (nI (vc)), .ref (ad 54), .ref (ad 75)])) (vf : Nat → Option Nat) (hvf : g 53 = .inl (cy 5, 4, .inr (.inr (.inr (.inr vf))))) (hvc : vc ≤ 4) (x0 : Int32) : Met l yX9_isVillage (WS yX9_isVillage cX9_isVillage 2 (some .boolean)) (rmF 0 0) (PP [.ref (ad 0), .int x0] D cy ad N g) (vp_Si (fun r => r = if isI x0 vc then 1 else 0)) 0 0 (fun _ => False) := by
  refine mentry (by decide) (Nat.le_of_ble_eq_true rfl) (fun p e s m below meth c ls S hr hlk hnm hP hK hl => ?_)
  have S : CallFix p m c cX9_isVillage 2 s _ wsL_law RX9 := S
  have hx := S.1
  have hb := S.2.1
  have hl : lv_has ls 2 [(0, .ref (ad 0)), (1, .int x0)] := hl
  refine lv_iload_n hx hb dX9_isVillage_0 rfl (lv_at hl 1 rfl) ?_
  refine lv_if_lt (tgt := 25) hx hb dX9_isVillage_1 (by decide) (fun c_1 => ?_) (fun c_1 => ?_)
  · skip
    have hJ : ¬ isI x0 vc := fun q => q.1 c_1
    refine lv_iconst (v := nI (0)) hx hb dX9_isVillage_25 (by decide) ?_
    exact rSz S hr hlk (by first | exact Or.inl rfl | exact Or.inr rfl) (ifF hJ) dX9_isVillage_26
  · skip
    obtain ⟨i, hib, rfl⟩ := nI_of c_1
    refine lv_iload_n hx hb dX9_isVillage_4 rfl (lv_at hl 1 rfl) ?_
    refine lv_aload_n hx hb dX9_isVillage_5 rfl (lv_at hl 0 rfl) ?_
    refine mg S hK hP (by omega) hX fd_X9_250 rfl dX9_isVillage_6 ?_
    refine lv_icmp_ge (tgt := 25) hx hb dX9_isVillage_9 (by decide) (fun c_9 => ?_) (fun c_9 => ?_)
    · skip
      have c_9 := (nI_leI (by omega) (by omega)).mp c_9
      have hJ : ¬ isI (nI i) vc := fun q => absurd ((isI_nI (by omega) (by omega)).mp q) (by omega)
      refine lv_iconst (v := nI (0)) hx hb dX9_isVillage_25 (by decide) ?_
      exact rSz S hr hlk (by first | exact Or.inl rfl | exact Or.inr rfl) (ifF hJ) dX9_isVillage_26
    · skip
      have c_9 := (not_congr (nI_leI (by omega) (by omega))).mp c_9
      refine lv_iload_n hx hb dX9_isVillage_12 rfl (lv_at hl 1 rfl) ?_
      refine lv_aload_n hx hb dX9_isVillage_13 rfl (lv_at hl 0 rfl) ?_
      refine mg S hK hP (by omega) hX fd_X9_59 rfl dX9_isVillage_14 ?_
      refine malen S hK hP (by omega) hvf rfl (v := nI 4) rfl dX9_isVillage_17 ?_
      refine lv_icmp_ge (tgt := 25) hx hb dX9_isVillage_18 (by decide) (fun c_18 => ?_) (fun c_18 => ?_)
      · skip
        have c_18 := (nI_leI (by omega) (by omega)).mp c_18
        have hJ : ¬ isI (nI i) vc := fun q => absurd ((isI_nI (by omega) (by omega)).mp q) (by omega)
        refine lv_iconst (v := nI (0)) hx hb dX9_isVillage_25 (by decide) ?_
        exact rSz S hr hlk (by first | exact Or.inl rfl | exact Or.inr rfl) (ifF hJ) dX9_isVillage_26
      · skip
        have c_18 := (not_congr (nI_leI (by omega) (by omega))).mp c_18
        have hJ : isI (nI i) vc := (isI_nI (by omega) (by omega)).mpr (by omega)
        refine lv_iconst (v := nI (1)) hx hb dX9_isVillage_21 (by decide) ?_
        refine lv_goto (tgt := 26) hx hb dX9_isVillage_22 (by decide) ?_
        exact rSz S hr hlk (by first | exact Or.inl rfl | exact Or.inr rfl) (ifT hJ) dX9_isVillage_26
set_option maxHeartbeats 4000000 in
set_option maxRecDepth 100000 in
theorem c_X9_place (l : Launch) (D : va_G) (cy : Nat → ClassId) (ad : Nat → Nat) (N : Nat) (g : Nat → va_E) (hN : 114 ≤ N) (qc : Nat) (fc : Nat) (lf : Int32) (lt : Int32) (vc : Nat) (hX : g 0 = .inr (9, [.ref (ad 1), .ref (ad 17), .ref (ad 33), .ref (ad 34), .int (nI (qc)), .ref (ad 35), .ref (ad 45), .ref (ad 47), .ref (ad 52), .int (nI (fc)), .int lf, .int lt, .ref (ad 53), .int (nI (vc)), .ref (ad 54), .ref (ad 75)])) (nx0 : Nat) (un : Nat) (rf : Int32) (hg : g 1 = .inr (1, [.ref (ad (1 + 1)), .ref (ad (1 + 2)), .int (nI (nx0)), .int (nI (un)), .int rf])) (w : WT) (hgn : g (1 + 1) = .inr (8, [.int (nI (wn w)), .long (lN (sea (wd w) (wn w))), .int (nI (wf w)), .int (nI (wh w)), .long (lN (wo w))])) (fa : Nat → Option Nat) (hga : g (1 + 2) = .inl (cy 6, 13, .inr (.inr (.inr (.inr fa))))) (hfa : ∀ j, j < 13 → fa j = some (ad (1 + 3 + j))) (Pw : Nat → WT) (hfam : (∀ j : Nat, j < 13 → g (1 + 3 + j) = .inr (8, [.int (nI (wn (Pw j))), .long (lN (sea (wd (Pw j)) (wn (Pw j)))), .int (nI (wf (Pw j))), .int (nI (wh (Pw j))), .long (lN (wo (Pw j)))]))) (hnx : nx0 < 13) (hun : un ≤ 12) (hw : WOK w) (hPw : ∀ j, j < 13 → WOK (Pw j)) (x0 : Int32) (what : Int32) : Met l yX9_place (WS yX9_place cX9_place 4 (some .int)) (rmF 1 21) (PP [.ref (ad 0), .int x0, .int what] D cy ad N g) (vp_Si (fun r => r = plA w x0 what)) 0 0 (fun _ => False) := by
  refine mentry (by decide) (Nat.le_of_ble_eq_true rfl) (fun p e s m below meth c ls S hr hlk hnm hP hK hl => ?_)
  have S : CallFix p m c cX9_place 4 s _ wsL_law RX9 := S
  have hx := S.1
  have hb := S.2.1
  have hl : lv_has ls 4 [(0, .ref (ad 0)), (1, .int x0), (2, .int what)] := hl
  have hn4 := hw.1.1
  have hn8 := hw.1.2
  have hpm := hw.2.1
  have hda := hpm.1
  have hf := lt256 hw.2.2.1 hn8
  refine lv_aload_n hx hb dX9_place_0 rfl (lv_at hl 0 rfl) ?_
  refine mg S hK hP (by omega) hX fd_X9_10 rfl dX9_place_1 ?_
  refine mg S hK hP (by omega) hg fd_X9_79 rfl dX9_place_4 ?_
  refine lv_astore_n (lv' := [(3, .ref (ad (1 + 1))), (0, .ref (ad 0)), (1, .int x0), (2, .int what)]) hx hb dX9_place_7 rfl hl (by decide) rfl (fun ls hl => ?_)
  refine lv_iload_n hx hb dX9_place_8 rfl (lv_at hl 2 rfl) ?_
  refine lv_if_lt (tgt := 20) hx hb dX9_place_9 (by decide) (fun c_9 => ?_) (fun c_9 => ?_)
  · skip
    have hJ : ¬ isI x0 (wn w) := fun q => q.1 c_9
    refine lv_iconst (v := (-1)) hx hb dX9_place_20 (by decide) ?_
    exact rSi S hr hlk (plA_b hJ).symm dX9_place_21
  · skip
    obtain ⟨i, hib, rfl⟩ := nI_of c_9
    refine lv_iload_n hx hb dX9_place_12 rfl (lv_at hl 2 rfl) ?_
    refine lv_aload_n hx hb dX9_place_13 rfl (lv_at hl 0 rfl) ?_
    refine mg S hK hP (by omega) hgn fd_X9_101 rfl dX9_place_14 ?_
    refine lv_icmp_lt (tgt := 22) hx hb dX9_place_17 (by decide) (fun c_17 => ?_) (fun c_17 => ?_)
    · skip
      have c_17 := (nI_ltI (by omega) (by omega)).mp c_17
      have hdi := hda i c_17
      refine lv_iload_n hx hb dX9_place_22 rfl (lv_at hl 3 rfl) ?_
      by_cases e23_0 : what = nI 0
      · subst e23_0
        refine lv_lookup (tgt := 48) hx hb dX9_place_23 (by decide) rfl (by decide) ?_
        refine lv_aload_n hx hb dX9_place_48 rfl (lv_at hl 0 rfl) ?_
        refine lv_iload_n hx hb dX9_place_49 rfl (lv_at hl 2 rfl) ?_
        refine kVi (As := [.int (nI (i))]) (rest := []) S hK hP (c_X8_dancerAt l D cy ad N g (1 + 1) (by omega) (wn w) (wd w) (wf w) (wh w) (wo w) hgn hn4 hn8 hda i (by omega)) cv_X9_104 (by omega) hgn ⟨_, _, rfl⟩ ⟨rfl, rfl⟩ rfl hl.1 rfl (Nat.le_of_ble_eq_true rfl) ⟨Nat.zero_le _, Nat.zero_le _⟩ dX9_place_50 (fun r_50 q_50 => ?_)
        subst q_50
        exact rSi S hr hlk (plA_0 hn8 (by omega)).symm dX9_place_53
      by_cases e23_1 : what = nI 1
      · subst e23_1
        refine lv_lookup (tgt := 54) hx hb dX9_place_23 (by decide) rfl (by decide) ?_
        refine lv_aload_n hx hb dX9_place_54 rfl (lv_at hl 0 rfl) ?_
        refine mg S hK hP (by omega) hgn fd_X9_108 rfl dX9_place_55 ?_
        refine lv_aload_n hx hb dX9_place_58 rfl (lv_at hl 0 rfl) ?_
        refine lv_iload_n hx hb dX9_place_59 rfl (lv_at hl 2 rfl) ?_
        refine kVi (As := [.int (nI (i))]) (rest := [.int (nI (wf w))]) S hK hP (c_X8_dancerAt l D cy ad N g (1 + 1) (by omega) (wn w) (wd w) (wf w) (wh w) (wo w) hgn hn4 hn8 hda i (by omega)) cv_X9_104 (by omega) hgn ⟨_, _, rfl⟩ ⟨rfl, rfl⟩ rfl hl.1 rfl (Nat.le_of_ble_eq_true rfl) ⟨Nat.zero_le _, Nat.zero_le _⟩ dX9_place_60 (fun r_60 q_60 => ?_)
        subst q_60
        refine lv_iushr hx hb dX9_place_63 rfl ?_
        refine tpi (ushN (by omega) (by omega)) ?_
        refine lv_iconst (v := nI (1)) hx hb dX9_place_64 (by decide) ?_
        refine lv_iand hx hb dX9_place_65 ?_
        refine tpi (nx_and ((wf w) / 2 ^ ((wd w) i)) 1) ?_
        exact rSi S hr hlk (plA_1 hn8 (by omega)).symm dX9_place_66
      refine lv_lookup (off := 44) (tgt := 67) hx hb dX9_place_23 (by decide) ((lv_osw e23_0 rfl).trans ((lv_osw e23_1 rfl).trans (rfl))) (by decide) ?_
      refine lv_iconst (v := (-1)) hx hb dX9_place_67 (by decide) ?_
      exact rSi S hr hlk (plA_d hn8 (by omega) e23_0 e23_1).symm dX9_place_68
    · skip
      have c_17 := (not_congr (nI_ltI (by omega) (by omega))).mp c_17
      have hJ : ¬ isI (nI i) (wn w) := fun q => absurd ((isI_nI (by omega) (by omega)).mp q) (by omega)
      refine lv_iconst (v := (-1)) hx hb dX9_place_20 (by decide) ?_
      exact rSi S hr hlk (plA_b hJ).symm dX9_place_21
set_option maxHeartbeats 4000000 in
set_option maxRecDepth 100000 in
theorem c_X9_village (l : Launch) (D : va_G) (cy : Nat → ClassId) (ad : Nat → Nat) (N : Nat) (g : Nat → va_E) (hinj : ∀ i j : Nat, i < N → j < N → ad i = ad j → i = j) (hN : 114 ≤ N) (qc : Nat) (fc : Nat) (lf : Int32) (lt : Int32) (vc : Nat) (hX : g 0 = .inr (9, [.ref (ad 1), .ref (ad 17), .ref (ad 33), .ref (ad 34), .int (nI (qc)), .ref (ad 35), .ref (ad 45), .ref (ad 47), .ref (ad 52), .int (nI (fc)), .int lf, .int lt, .ref (ad 53), .int (nI (vc)), .ref (ad 54), .ref (ad 75)])) (vf : Nat → Option Nat) (hvf : g 53 = .inl (cy 5, 4, .inr (.inr (.inr (.inr vf))))) (hvc : vc ≤ 4) : Met l yX9_village (WS yX9_village cX9_village 1 (some .int)) (rmF 0 0) (PP [.ref (ad 0)] D cy ad N g) (QI (fun r g1 => (r = if vc < 4 then nI vc else -3) ∧ g1 0 = .inr (9, [.ref (ad 1), .ref (ad 17), .ref (ad 33), .ref (ad 34), .int (nI (qc)), .ref (ad 35), .ref (ad 45), .ref (ad 47), .ref (ad 52), .int (nI (fc)), .int lf, .int lt, .ref (ad 53), .int (nI ((if vc < 4 then vc + 1 else vc))), .ref (ad 54), .ref (ad 75)]) ∧ (∀ j, j ≠ 0 → g1 j = g j)) D ad N) 0 0 (AA ad N) := by
  refine mentry (by decide) (Nat.le_of_ble_eq_true rfl) (fun p e s m below meth c ls S hr hlk hnm hP hK hl => ?_)
  have S : CallFix p m c cX9_village 1 s _ wsL_law RX9 := S
  have hx := S.1
  have hb := S.2.1
  have hl : lv_has ls 1 [(0, .ref (ad 0))] := hl
  have hI : MD (AA ad N) ad N := MD.in hinj
  have hS : va_S (AA ad N) s.heap s.heap [] := va_S.rf
  have hfr : ∀ j : Nat, g j = g j := fun _ => rfl
  refine lv_aload_n hx hb dX9_village_0 rfl (lv_at hl 0 rfl) ?_
  refine mg S hK hP (by omega) hX fd_X9_250 rfl dX9_village_1 ?_
  refine lv_aload_n hx hb dX9_village_4 rfl (lv_at hl 0 rfl) ?_
  refine mg S hK hP (by omega) hX fd_X9_59 rfl dX9_village_5 ?_
  refine malen S hK hP (by omega) hvf rfl (v := nI 4) rfl dX9_village_8 ?_
  refine lv_icmp_lt (tgt := 15) hx hb dX9_village_9 (by decide) (fun c_9 => ?_) (fun c_9 => ?_)
  · skip
    have c_9 := (nI_ltI (by omega) (by omega)).mp c_9
    refine lv_aload_n hx hb dX9_village_15 rfl (lv_at hl 0 rfl) ?_
    refine lv_dup hx hb dX9_village_16 rfl ?_
    refine mg S hK hP (by omega) hX fd_X9_250 rfl dX9_village_17 ?_
    refine lv_iconst (v := nI (1)) hx hb dX9_village_20 (by decide) ?_
    refine lv_iadd hx hb dX9_village_21 ?_
    refine tpi (nI_add vc 1) ?_
    refine mp S hK hP hI hS (by omega) hX fd_X9_250 rfl rfl (Nat.le_of_ble_eq_true rfl) dX9_village_22 (fun g_1 H locs eg_1 hP hS => ?_)
    have h0_1 : g_1 0 = .inr (9, [.ref (ad 1), .ref (ad 17), .ref (ad 33), .ref (ad 34), .int (nI (qc)), .ref (ad 35), .ref (ad 45), .ref (ad 47), .ref (ad 52), .int (nI (fc)), .int lf, .int lt, .ref (ad 53), .int (nI (vc + 1)), .ref (ad 54), .ref (ad 75)]) := by rw [eg_1, va_up_self]; exact rfl
    have h53_1 : g_1 53 = .inl (cy 5, 4, .inr (.inr (.inr (.inr vf)))) := ((congrFun eg_1 _).trans (va_up_ne _ _ (by omega))).trans hvf
    have hfr_1 : ∀ j : Nat, j ≠ 0 → g_1 j = g j := fun j n0 => ((congrFun eg_1 _).trans (va_up_ne _ _ n0)).trans (hfr j )
    refine lv_aload_n hx hb dX9_village_25 rfl (lv_at hl 0 rfl) ?_
    refine mg S hK hP (by omega) h0_1 fd_X9_250 rfl dX9_village_26 ?_
    refine lv_iconst (v := nI (1)) hx hb dX9_village_29 (by decide) ?_
    refine lv_isub hx hb dX9_village_30 ?_
    refine tpi (pk_sub (a := vc + 1) (b := 1) (by omega)) ?_
    exact rMi S hr hlk hP hS ⟨(if_pos (by omega)).symm, (by rw [if_pos (by omega)]; exact h0_1), hfr_1⟩ dX9_village_31
  · skip
    have c_9 := (not_congr (nI_ltI (by omega) (by omega))).mp c_9
    refine lv_bipush (v := (-3)) hx hb dX9_village_12 (by decide) ?_
    exact rMi S hr hlk hP hS ⟨(if_neg (by omega)).symm, (by rw [if_neg (by omega)]; exact hX), (fun j n0 => hfr j )⟩ dX9_village_14


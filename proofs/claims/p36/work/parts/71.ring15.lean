set_option maxHeartbeats 4000000 in
set_option maxRecDepth 100000 in
theorem c_X9_blade (l : Launch) (D : va_G) (cy : Nat → ClassId) (ad : Nat → Nat) (N : Nat) (g : Nat → va_E) (hN : 114 ≤ N) (qc : Nat) (fc : Nat) (lf : Int32) (lt : Int32) (vc : Nat) (hX : g 0 = .inr (9, [.ref (ad 1), .ref (ad 17), .ref (ad 33), .ref (ad 34), .int (nI (qc)), .ref (ad 35), .ref (ad 45), .ref (ad 47), .ref (ad 52), .int (nI (fc)), .int lf, .int lt, .ref (ad 53), .int (nI (vc)), .ref (ad 54), .ref (ad 75)])) (nx0 : Nat) (un : Nat) (rf : Int32) (hg : g 1 = .inr (1, [.ref (ad (1 + 1)), .ref (ad (1 + 2)), .int (nI (nx0)), .int (nI (un)), .int rf])) (w : WT) (hgn : g (1 + 1) = .inr (8, [.int (nI (wn w)), .long (lN (sea (wd w) (wn w))), .int (nI (wf w)), .int (nI (wh w)), .long (lN (wo w))])) (fa : Nat → Option Nat) (hga : g (1 + 2) = .inl (cy 6, 13, .inr (.inr (.inr (.inr fa))))) (hfa : ∀ j, j < 13 → fa j = some (ad (1 + 3 + j))) (Pw : Nat → WT) (hfam : (∀ j : Nat, j < 13 → g (1 + 3 + j) = .inr (8, [.int (nI (wn (Pw j))), .long (lN (sea (wd (Pw j)) (wn (Pw j)))), .int (nI (wf (Pw j))), .int (nI (wh (Pw j))), .long (lN (wo (Pw j)))]))) (hnx : nx0 < 13) (hun : un ≤ 12) (hw : WOK w) (hPw : ∀ j, j < 13 → WOK (Pw j)) (x0 : Int32) (what : Int32) : Met l yX9_blade (WS yX9_blade cX9_blade 4 (some .int)) (rmF 5 114) (PP [.ref (ad 0), .int x0, .int what] D cy ad N g) (vp_Si (fun r => r = if isI x0 (wn w) then blN w x0.toNatClampNeg what else -1)) 0 0 (fun _ => False) := by
  refine mentry (by decide) (Nat.le_of_ble_eq_true rfl) (fun p e s m below meth c ls S hr hlk hnm hP hK hl => ?_)
  have S : CallFix p m c cX9_blade 4 s _ wsL_law RX9 := S
  have hx := S.1
  have hb := S.2.1
  have hl : lv_has ls 4 [(0, .ref (ad 0)), (1, .int x0), (2, .int what)] := hl
  have hn4 := hw.1.1
  have hn8 := hw.1.2
  have hpm := hw.2.1
  have hda := hpm.1
  have hf := lt256 hw.2.2.1 hn8
  have hh := lt256 hw.2.2.2.1 hn8
  have ho := hw.2.2.2.2.1
  refine lv_aload_n hx hb dX9_blade_0 rfl (lv_at hl 0 rfl) ?_
  refine mg S hK hP (by omega) hX fd_X9_10 rfl dX9_blade_1 ?_
  refine mg S hK hP (by omega) hg fd_X9_79 rfl dX9_blade_4 ?_
  refine lv_astore_n (lv' := [(3, .ref (ad (1 + 1))), (0, .ref (ad 0)), (1, .int x0), (2, .int what)]) hx hb dX9_blade_7 rfl hl (by decide) rfl (fun ls hl => ?_)
  refine lv_iload_n hx hb dX9_blade_8 rfl (lv_at hl 2 rfl) ?_
  refine lv_if_lt (tgt := 20) hx hb dX9_blade_9 (by decide) (fun c_9 => ?_) (fun c_9 => ?_)
  · skip
    have hJ : ¬ isI x0 (wn w) := fun q => q.1 c_9
    refine lv_iconst (v := (-1)) hx hb dX9_blade_20 (by decide) ?_
    exact rSi S hr hlk (if_neg hJ).symm dX9_blade_21
  · skip
    obtain ⟨i, hib, rfl⟩ := nI_of c_9
    refine lv_iload_n hx hb dX9_blade_12 rfl (lv_at hl 2 rfl) ?_
    refine lv_aload_n hx hb dX9_blade_13 rfl (lv_at hl 0 rfl) ?_
    refine mg S hK hP (by omega) hgn fd_X9_101 rfl dX9_blade_14 ?_
    refine lv_icmp_lt (tgt := 22) hx hb dX9_blade_17 (by decide) (fun c_17 => ?_) (fun c_17 => ?_)
    · skip
      have c_17 := (nI_ltI (by omega) (by omega)).mp c_17
      have hJ := (isI_nI (k := i) (n := wn w) (by omega) (by omega)).mpr c_17
      have htb := tab_lt (o := wo w) (i := i) hn8
      have hm9 : wo w / 2 ^ (8 * i) % 256 < 256 := Nat.mod_lt _ (by decide)
      refine lv_iload_n hx hb dX9_blade_22 rfl (lv_at hl 3 rfl) ?_
      by_cases e23_0 : what = nI 0
      · subst e23_0
        refine lv_tableIn (tgt := 56) hx hb dX9_blade_23 (by decide) (by decide) rfl (by decide) ?_
        refine lv_aload_n hx hb dX9_blade_56 rfl (lv_at hl 0 rfl) ?_
        refine mg S hK hP (by omega) hgn fd_X9_111 rfl dX9_blade_57 ?_
        refine lv_iload_n hx hb dX9_blade_60 rfl (lv_at hl 2 rfl) ?_
        refine lv_iushr hx hb dX9_blade_61 rfl ?_
        refine tpi (ushN (by omega) (by omega)) ?_
        refine lv_iconst (v := nI (1)) hx hb dX9_blade_62 (by decide) ?_
        refine lv_iand hx hb dX9_blade_63 ?_
        refine tpi (nx_and ((wh w) / 2 ^ i) 1) ?_
        exact rSi S hr hlk (by rw [if_pos hJ, nI_clamp hib]; unfold blN; rw [if_pos rfl]) dX9_blade_64
      by_cases e23_1 : what = nI 1
      · subst e23_1
        refine lv_tableIn (tgt := 65) hx hb dX9_blade_23 (by decide) (by decide) rfl (by decide) ?_
        refine lv_aload_n hx hb dX9_blade_65 rfl (lv_at hl 0 rfl) ?_
        refine lv_iload_n hx hb dX9_blade_66 rfl (lv_at hl 2 rfl) ?_
        refine kVi (As := [.int (nI (i))]) (rest := []) S hK hP (c_X8_thoseBelow l D cy ad N g (1 + 1) (by omega) (wn w) (wd w) (wf w) (wh w) (wo w) hgn hn4 hn8 ho i (by omega)) cv_X9_114 (by omega) hgn ⟨_, _, rfl⟩ ⟨rfl, rfl⟩ rfl hl.1 rfl (Nat.le_of_ble_eq_true rfl) ⟨Nat.zero_le _, Nat.zero_le _⟩ dX9_blade_67 (fun r_67 q_67 => ?_)
        subst q_67
        refine kSi (As := [.int (nI ((wo w) / 2 ^ (8 * i) % 256))]) (rest := []) S hK hP (c_J6_bitCount_0f7a4 l D cy ad N g ((wo w) / 2 ^ (8 * i) % 256) hm9) cs_X9_117 ⟨rfl, rfl⟩ rfl hl.1 rfl (Nat.le_of_ble_eq_true rfl) ⟨Nat.zero_le _, Nat.zero_le _⟩ dX9_blade_70 (fun r_70 q_70 => ?_)
        subst q_70
        exact rSi S hr hlk (by rw [if_pos hJ, nI_clamp hib]; unfold blN; rw [if_neg (by decide), if_pos rfl]) dX9_blade_73
      by_cases e23_2 : what = nI 2
      · subst e23_2
        refine lv_tableIn (tgt := 74) hx hb dX9_blade_23 (by decide) (by decide) rfl (by decide) ?_
        refine lv_aload_n hx hb dX9_blade_74 rfl (lv_at hl 0 rfl) ?_
        refine lv_iload_n hx hb dX9_blade_75 rfl (lv_at hl 2 rfl) ?_
        refine kVi (As := [.int (nI (i))]) (rest := []) S hK hP (c_X8_thoseAbove l D cy ad N g (1 + 1) (by omega) (wn w) (wd w) (wf w) (wh w) (wo w) hgn hn4 hn8 ho i (by omega)) cv_X9_122 (by omega) hgn ⟨_, _, rfl⟩ ⟨rfl, rfl⟩ rfl hl.1 rfl (Nat.le_of_ble_eq_true rfl) ⟨Nat.zero_le _, Nat.zero_le _⟩ dX9_blade_76 (fun r_76 q_76 => ?_)
        subst q_76
        refine kSi (As := [.int (nI (tab (wn w) (wo w) i))]) (rest := []) S hK hP (c_J6_bitCount_0f7a4 l D cy ad N g (tab (wn w) (wo w) i) htb) cs_X9_117 ⟨rfl, rfl⟩ rfl hl.1 rfl (Nat.le_of_ble_eq_true rfl) ⟨Nat.zero_le _, Nat.zero_le _⟩ dX9_blade_79 (fun r_79 q_79 => ?_)
        subst q_79
        exact rSi S hr hlk (by rw [if_pos hJ, nI_clamp hib]; unfold blN; rw [if_neg (by decide), if_neg (by decide), if_pos rfl]) dX9_blade_82
      by_cases e23_3 : what = nI 3
      · subst e23_3
        refine lv_tableIn (tgt := 83) hx hb dX9_blade_23 (by decide) (by decide) rfl (by decide) ?_
        refine lv_aload_n hx hb dX9_blade_83 rfl (lv_at hl 0 rfl) ?_
        refine lv_iload_n hx hb dX9_blade_84 rfl (lv_at hl 2 rfl) ?_
        refine kVi (As := [.int (nI (i))]) (rest := []) S hK hP (c_X8_thoseBelow l D cy ad N g (1 + 1) (by omega) (wn w) (wd w) (wf w) (wh w) (wo w) hgn hn4 hn8 ho i (by omega)) cv_X9_114 (by omega) hgn ⟨_, _, rfl⟩ ⟨rfl, rfl⟩ rfl hl.1 rfl (Nat.le_of_ble_eq_true rfl) ⟨Nat.zero_le _, Nat.zero_le _⟩ dX9_blade_85 (fun r_85 q_85 => ?_)
        subst q_85
        refine lv_aload_n hx hb dX9_blade_88 rfl (lv_at hl 0 rfl) ?_
        refine lv_iload_n hx hb dX9_blade_89 rfl (lv_at hl 2 rfl) ?_
        refine kVi (As := [.int (nI (i))]) (rest := [.int (nI ((wo w) / 2 ^ (8 * i) % 256))]) S hK hP (c_X8_thoseAbove l D cy ad N g (1 + 1) (by omega) (wn w) (wd w) (wf w) (wh w) (wo w) hgn hn4 hn8 ho i (by omega)) cv_X9_122 (by omega) hgn ⟨_, _, rfl⟩ ⟨rfl, rfl⟩ rfl hl.1 rfl (Nat.le_of_ble_eq_true rfl) ⟨Nat.zero_le _, Nat.zero_le _⟩ dX9_blade_90 (fun r_90 q_90 => ?_)
        subst q_90
        refine lv_ior hx hb dX9_blade_93 ?_
        refine tpi (nI_or ((wo w) / 2 ^ (8 * i) % 256) (tab (wn w) (wo w) i)) ?_
        exact rSi S hr hlk (by rw [if_pos hJ, nI_clamp hib]; unfold blN; rw [if_neg (by decide), if_neg (by decide), if_neg (by decide), if_pos rfl]) dX9_blade_94
      by_cases e23_4 : what = nI 4
      · subst e23_4
        refine lv_tableIn (tgt := 95) hx hb dX9_blade_23 (by decide) (by decide) rfl (by decide) ?_
        refine lv_aload_n hx hb dX9_blade_95 rfl (lv_at hl 0 rfl) ?_
        refine lv_iload_n hx hb dX9_blade_96 rfl (lv_at hl 2 rfl) ?_
        refine kVi (As := [.int (nI (i))]) (rest := []) S hK hP (c_X8_layerOf l D cy ad N g (1 + 1) (by omega) w hgn hw i (by omega)) cv_X9_125 (by omega) hgn ⟨_, _, rfl⟩ ⟨rfl, rfl⟩ rfl hl.1 rfl (Nat.le_of_ble_eq_true rfl) ⟨Nat.zero_le _, Nat.zero_le _⟩ dX9_blade_97 (fun r_97 q_97 => ?_)
        subst q_97
        exact rSi S hr hlk (by show lyr w i = _; rw [if_pos hJ, nI_clamp hib]; unfold blN; rw [if_neg (by decide), if_neg (by decide), if_neg (by decide), if_neg (by decide), if_pos rfl]) dX9_blade_100
      refine lv_tableOut (tgt := 101) hx hb dX9_blade_23 (sw_out5 e23_0 e23_1 e23_2 e23_3 e23_4) (by decide) ?_
      refine lv_iconst (v := (-1)) hx hb dX9_blade_101 (by decide) ?_
      exact rSi S hr hlk (by rw [if_pos hJ, nI_clamp hib]; unfold blN; rw [if_neg e23_0, if_neg e23_1, if_neg e23_2, if_neg e23_3, if_neg e23_4]) dX9_blade_102
    · skip
      have c_17 := (not_congr (nI_ltI (by omega) (by omega))).mp c_17
      have hJ : ¬ isI (nI i) (wn w) := fun q => absurd ((isI_nI (by omega) (by omega)).mp q) (by omega)
      refine lv_iconst (v := (-1)) hx hb dX9_blade_20 (by decide) ?_
      exact rSi S hr hlk (if_neg hJ).symm dX9_blade_21


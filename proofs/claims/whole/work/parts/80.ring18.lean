set_option maxHeartbeats 4000000 in
set_option maxRecDepth 100000 in
theorem c_X9_about (l : Launch) (D : va_G) (cy : Nat → ClassId) (ad : Nat → Nat) (N : Nat) (g : Nat → va_E) (hN : 114 ≤ N) (qc : Nat) (fc : Nat) (lf : Int32) (lt : Int32) (vc : Nat) (hX : g 0 = .inr (9, [.ref (ad 1), .ref (ad 17), .ref (ad 33), .ref (ad 34), .int (nI (qc)), .ref (ad 35), .ref (ad 45), .ref (ad 47), .ref (ad 52), .int (nI (fc)), .int lf, .int lt, .ref (ad 53), .int (nI (vc)), .ref (ad 54), .ref (ad 75)])) (nx0 : Nat) (un : Nat) (rf : Int32) (hg : g 1 = .inr (1, [.ref (ad (1 + 1)), .ref (ad (1 + 2)), .int (nI (nx0)), .int (nI (un)), .int rf])) (w : WT) (hgn : g (1 + 1) = .inr (8, [.int (nI (wn w)), .long (lN (sea (wd w) (wn w))), .int (nI (wf w)), .int (nI (wh w)), .long (lN (wo w))])) (fa : Nat → Option Nat) (hga : g (1 + 2) = .inl (cy 6, 13, .inr (.inr (.inr (.inr fa))))) (hfa : ∀ j, j < 13 → fa j = some (ad (1 + 3 + j))) (Pw : Nat → WT) (hfam : (∀ j : Nat, j < 13 → g (1 + 3 + j) = .inr (8, [.int (nI (wn (Pw j))), .long (lN (sea (wd (Pw j)) (wn (Pw j)))), .int (nI (wf (Pw j))), .int (nI (wh (Pw j))), .long (lN (wo (Pw j)))]))) (hnx : nx0 < 13) (hun : un ≤ 12) (hw : WOK w) (hPw : ∀ j, j < 13 → WOK (Pw j)) (what : Int32) : Met l yX9_about (WS yX9_about cX9_about 3 (some .int)) (rmF 5 113) (PP [.ref (ad 0), .int what] D cy ad N g) (vp_Si (fun r => r = abA w un what)) 0 0 (fun _ => False) := by
  refine mentry (by decide) (Nat.le_of_ble_eq_true rfl) (fun p e s m below meth c ls S hr hlk hnm hP hK hl => ?_)
  have S : CallFix p m c cX9_about 3 s _ wsL_law RX9 := S
  have hx := S.1
  have hb := S.2.1
  have hl : lv_has ls 3 [(0, .ref (ad 0)), (1, .int what)] := hl
  have hn4 := hw.1.1
  have hn8 := hw.1.2
  have hpm := hw.2.1
  have hda := hpm.1
  have hf := lt256 hw.2.2.1 hn8
  have hh := lt256 hw.2.2.2.1 hn8
  have ho := hw.2.2.2.2.1
  have hlf := Nat.lt_of_lt_of_le (lef_lt (o := wo w) (n := wn w) hw.2.2.2.1 (wn w)) (Nat.pow_le_pow_right (n := 2) (by decide) hn8)
  refine lv_aload_n hx hb dX9_about_0 rfl (lv_at hl 0 rfl) ?_
  refine mg S hK hP (by omega) hX fd_X9_10 rfl dX9_about_1 ?_
  refine mg S hK hP (by omega) hg fd_X9_79 rfl dX9_about_4 ?_
  refine lv_astore_n (lv' := [(2, .ref (ad (1 + 1))), (0, .ref (ad 0)), (1, .int what)]) hx hb dX9_about_7 rfl hl (by decide) rfl (fun ls hl => ?_)
  refine lv_iload_n hx hb dX9_about_8 rfl (lv_at hl 2 rfl) ?_
  by_cases e9_0 : what = nI 0
  · subst e9_0
    refine lv_tableIn (tgt := 64) hx hb dX9_about_9 (by decide) (by decide) rfl (by decide) ?_
    refine lv_aload_n hx hb dX9_about_64 rfl (lv_at hl 0 rfl) ?_
    refine mg S hK hP (by omega) hgn fd_X9_101 rfl dX9_about_65 ?_
    exact rSi S hr hlk (by unfold abA; rw [if_pos rfl]) dX9_about_68
  by_cases e9_1 : what = nI 1
  · subst e9_1
    refine lv_tableIn (tgt := 69) hx hb dX9_about_9 (by decide) (by decide) rfl (by decide) ?_
    refine lv_aload_n hx hb dX9_about_69 rfl (lv_at hl 0 rfl) ?_
    refine mg S hK hP (by omega) hgn fd_X9_132 rfl dX9_about_70 ?_
    refine kSi (As := [.long (lN (wo w))]) (rest := []) S hK hP (c_J13_bitCount_95d88 l D cy ad N g (wo w) ho) cs_X9_136 ⟨rfl, rfl⟩ rfl hl.1 rfl (Nat.le_of_ble_eq_true rfl) ⟨Nat.zero_le _, Nat.zero_le _⟩ dX9_about_73 (fun r_73 q_73 => ?_)
    subst q_73
    exact rSi S hr hlk (by unfold abA; rw [if_neg (by decide), if_pos rfl]) dX9_about_76
  by_cases e9_2 : what = nI 2
  · subst e9_2
    refine lv_tableIn (tgt := 77) hx hb dX9_about_9 (by decide) (by decide) rfl (by decide) ?_
    refine lv_aload_n hx hb dX9_about_77 rfl (lv_at hl 0 rfl) ?_
    refine kVi (As := []) (rest := []) S hK hP (c_X8_isLock l D cy ad N g (1 + 1) (by omega) w hgn hw) cv_X9_141 (by omega) hgn ⟨_, _, rfl⟩ ⟨rfl, rfl⟩ rfl hl.1 rfl (Nat.le_of_ble_eq_true rfl) ⟨Nat.zero_le _, Nat.zero_le _⟩ dX9_about_78 (fun r_78 q_78 => ?_)
    subst q_78
    refine lv_if_eq (tgt := 88) hx hb dX9_about_81 (by decide) (fun c_81 => ?_) (fun c_81 => ?_)
    · skip
      have c_81 := bz_eq.mp c_81
      refine lv_iconst (v := nI (0)) hx hb dX9_about_88 (by decide) ?_
      exact rSi S hr hlk (by unfold abA; rw [if_neg (by decide), if_neg (by decide), if_pos rfl]; unfold lkA; rw [if_neg c_81]) dX9_about_89
    · skip
      have c_81 := bz_ne.mp c_81
      refine lv_iconst (v := nI (1)) hx hb dX9_about_84 (by decide) ?_
      refine lv_goto (tgt := 89) hx hb dX9_about_85 (by decide) ?_
      exact rSi S hr hlk (by unfold abA; rw [if_neg (by decide), if_neg (by decide), if_pos rfl]; unfold lkA; rw [if_pos c_81]) dX9_about_89
  by_cases e9_3 : what = nI 3
  · subst e9_3
    refine lv_tableIn (tgt := 90) hx hb dX9_about_9 (by decide) (by decide) rfl (by decide) ?_
    refine lv_aload_n hx hb dX9_about_90 rfl (lv_at hl 0 rfl) ?_
    refine kVi (As := []) (rest := []) S hK hP (c_X8_layers l D cy ad N g (1 + 1) (by omega) w hgn hw) cv_X9_145 (by omega) hgn ⟨_, _, rfl⟩ ⟨rfl, rfl⟩ rfl hl.1 rfl (Nat.le_of_ble_eq_true rfl) ⟨Nat.zero_le _, Nat.zero_le _⟩ dX9_about_91 (fun r_91 q_91 => ?_)
    subst q_91
    exact rSi S hr hlk (by unfold abA; rw [if_neg (by decide), if_neg (by decide), if_neg (by decide), if_pos rfl]) dX9_about_94
  by_cases e9_4 : what = nI 4
  · subst e9_4
    refine lv_tableIn (tgt := 95) hx hb dX9_about_9 (by decide) (by decide) rfl (by decide) ?_
    refine lv_aload_n hx hb dX9_about_95 rfl (lv_at hl 0 rfl) ?_
    refine kVi (As := []) (rest := []) S hK hP (c_X8_bound l D cy ad N g (1 + 1) (by omega) w hgn hw) cv_X9_148 (by omega) hgn ⟨_, _, rfl⟩ ⟨rfl, rfl⟩ rfl hl.1 rfl (Nat.le_of_ble_eq_true rfl) ⟨Nat.zero_le _, Nat.zero_le _⟩ dX9_about_96 (fun r_96 q_96 => ?_)
    subst q_96
    refine kSi (As := [.int (nI (lef (wn w) (wo w) (wh w) (wn w)))]) (rest := []) S hK hP (c_J6_bitCount_0f7a4 l D cy ad N g (lef (wn w) (wo w) (wh w) (wn w)) hlf) cs_X9_117 ⟨rfl, rfl⟩ rfl hl.1 rfl (Nat.le_of_ble_eq_true rfl) ⟨Nat.zero_le _, Nat.zero_le _⟩ dX9_about_99 (fun r_99 q_99 => ?_)
    subst q_99
    exact rSi S hr hlk (by unfold abA; rw [if_neg (by decide), if_neg (by decide), if_neg (by decide), if_neg (by decide), if_pos rfl]) dX9_about_102
  by_cases e9_5 : what = nI 5
  · subst e9_5
    refine lv_tableIn (tgt := 103) hx hb dX9_about_9 (by decide) (by decide) rfl (by decide) ?_
    refine lv_aload_n hx hb dX9_about_103 rfl (lv_at hl 0 rfl) ?_
    refine kVi (As := []) (rest := []) S hK hP (c_X8_star l D cy ad N g (1 + 1) (by omega) w hgn hw) cv_X9_151 (by omega) hgn ⟨_, _, rfl⟩ ⟨rfl, rfl⟩ rfl hl.1 rfl (Nat.le_of_ble_eq_true rfl) ⟨Nat.zero_le _, Nat.zero_le _⟩ dX9_about_104 (fun r_104 q_104 => ?_)
    subst q_104
    exact rSi S hr hlk (by show stA w = _; unfold abA; rw [if_neg (by decide), if_neg (by decide), if_neg (by decide), if_neg (by decide), if_neg (by decide), if_pos rfl]) dX9_about_107
  by_cases e9_6 : what = nI 6
  · subst e9_6
    refine lv_tableIn (tgt := 108) hx hb dX9_about_9 (by decide) (by decide) rfl (by decide) ?_
    refine lv_aload_n hx hb dX9_about_108 rfl (lv_at hl 0 rfl) ?_
    refine kVi (As := []) (rest := []) S hK hP (c_X8_turns l D cy ad N g (1 + 1) (by omega) w hgn hw) cv_X9_154 (by omega) hgn ⟨_, _, rfl⟩ ⟨rfl, rfl⟩ rfl hl.1 rfl (Nat.le_of_ble_eq_true rfl) ⟨Nat.zero_le _, Nat.zero_le _⟩ dX9_about_109 (fun r_109 q_109 => ?_)
    subst q_109
    exact rSi S hr hlk (by unfold abA; rw [if_neg (by decide), if_neg (by decide), if_neg (by decide), if_neg (by decide), if_neg (by decide), if_neg (by decide), if_pos rfl]) dX9_about_112
  by_cases e9_7 : what = nI 7
  · subst e9_7
    refine lv_tableIn (tgt := 113) hx hb dX9_about_9 (by decide) (by decide) rfl (by decide) ?_
    refine lv_aload_n hx hb dX9_about_113 rfl (lv_at hl 0 rfl) ?_
    refine mg S hK hP (by omega) hgn fd_X9_108 rfl dX9_about_114 ?_
    refine kSi (As := [.int (nI (wf w))]) (rest := []) S hK hP (c_J6_bitCount_0f7a4 l D cy ad N g (wf w) hf) cs_X9_117 ⟨rfl, rfl⟩ rfl hl.1 rfl (Nat.le_of_ble_eq_true rfl) ⟨Nat.zero_le _, Nat.zero_le _⟩ dX9_about_117 (fun r_117 q_117 => ?_)
    subst q_117
    exact rSi S hr hlk (by unfold abA; rw [if_neg (by decide), if_neg (by decide), if_neg (by decide), if_neg (by decide), if_neg (by decide), if_neg (by decide), if_neg (by decide), if_pos rfl]) dX9_about_120
  by_cases e9_8 : what = nI 8
  · subst e9_8
    refine lv_tableIn (tgt := 121) hx hb dX9_about_9 (by decide) (by decide) rfl (by decide) ?_
    refine lv_aload_n hx hb dX9_about_121 rfl (lv_at hl 0 rfl) ?_
    refine mg S hK hP (by omega) hgn fd_X9_111 rfl dX9_about_122 ?_
    refine kSi (As := [.int (nI (wh w))]) (rest := []) S hK hP (c_J6_bitCount_0f7a4 l D cy ad N g (wh w) hh) cs_X9_117 ⟨rfl, rfl⟩ rfl hl.1 rfl (Nat.le_of_ble_eq_true rfl) ⟨Nat.zero_le _, Nat.zero_le _⟩ dX9_about_125 (fun r_125 q_125 => ?_)
    subst q_125
    exact rSi S hr hlk (by unfold abA; rw [if_neg (by decide), if_neg (by decide), if_neg (by decide), if_neg (by decide), if_neg (by decide), if_neg (by decide), if_neg (by decide), if_neg (by decide), if_pos rfl]) dX9_about_128
  by_cases e9_9 : what = nI 9
  · subst e9_9
    refine lv_tableIn (tgt := 129) hx hb dX9_about_9 (by decide) (by decide) rfl (by decide) ?_
    refine lv_aload_n hx hb dX9_about_129 rfl (lv_at hl 1 rfl) ?_
    refine mg S hK hP (by omega) hX fd_X9_10 rfl dX9_about_130 ?_
    refine mg S hK hP (by omega) hg fd_X9_157 rfl dX9_about_133 ?_
    exact rSi S hr hlk (by unfold abA; rw [if_neg (by decide), if_neg (by decide), if_neg (by decide), if_neg (by decide), if_neg (by decide), if_neg (by decide), if_neg (by decide), if_neg (by decide), if_neg (by decide), if_pos rfl]) dX9_about_136
  refine lv_tableOut (tgt := 137) hx hb dX9_about_9 (sw_out10 e9_0 e9_1 e9_2 e9_3 e9_4 e9_5 e9_6 e9_7 e9_8 e9_9) (by decide) ?_
  refine lv_iconst (v := (-1)) hx hb dX9_about_137 (by decide) ?_
  exact rSi S hr hlk (by unfold abA; rw [if_neg e9_0, if_neg e9_1, if_neg e9_2, if_neg e9_3, if_neg e9_4, if_neg e9_5, if_neg e9_6, if_neg e9_7, if_neg e9_8, if_neg e9_9]) dX9_about_138

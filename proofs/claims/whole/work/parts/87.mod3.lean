set_option maxHeartbeats 4000000 in
set_option maxRecDepth 100000 in
theorem c_X10_does (l : Launch) (D : va_G) (cy : Nat → ClassId) (ad : Nat → Nat) (N : Nat) (g : Nat → va_E) (hinj : ∀ i j : Nat, i < N → j < N → ad i = ad j → i = j) (hN : 145 ≤ N) (w : WT) (un : Nat) (la : Int32) (bo : Int32) (tp : Nat) (ft : Int32) (wr0 : Nat) (wa : Nat) (at0 : Nat) (sp : Nat) (tk : Nat) (vl : Int32) (fi : Nat) (nm : Nat) (dp : Nat) (wy : Int32) (st : Int32) (aP : Nat) (aF : Nat) (aH : Nat) (aO : Nat) (ps : Nat) (mn : Nat) (go : Int32) (vi : Nat) (hM : g 114 = mob ad (nI (wn w)) (nI (wf w)) (nI (wh w)) (lN (wo w)) (nI (un)) la bo (nI (tp)) ft (nI (wr0)) (nI (wa)) (nI (at0)) (nI (sp)) (nI (tk)) vl (nI (fi)) (nI (nm)) (nI (dp)) wy st (nI (aP)) (nI (aF)) (nI (aH)) (lN aO) (nI (ps)) (nI (mn)) go (nI (vi))) (P : Nat → Nat) (hP9 : g 115 = .inl (cy 1, 8, .inl (fun x9 => nI (P x9)))) (hw : WOK w) (hPw : ∀ i, i < wn w → P i = wp w i) (S0 : Nat) (hS0 : S0 < 8) (K0 : Nat) (hK0 : K0 < 8) : Met l yX10_does (WS yX10_does cX10_does 4 (some .int)) (rmF 3 73) (PP [.ref (ad 114), .int (nI (S0)), .int (nI (K0))] D cy ad N g) (QI (fun r g1 => ∃ (P2 : Nat → Nat), (r = (dsR w S0 K0).1) ∧ (∀ i, i < wn w → P2 i = wp (dsR w S0 K0).2 i) ∧ g1 114 = mob ad (nI (wn w)) (nI (wf (dsR w S0 K0).2)) (nI (wh (dsR w S0 K0).2)) (lN (wo (dsR w S0 K0).2)) (nI (un)) la bo (nI (tp)) ft (nI (wr0)) (nI (wa)) (nI (at0)) (nI (sp)) (nI (tk)) vl (nI (fi)) (nI (nm)) (nI (dp)) wy st (nI (aP)) (nI (aF)) (nI (aH)) (lN aO) (nI (ps)) (nI (mn)) go (nI (vi)) ∧ g1 115 = .inl (cy 1, 8, .inl (fun x9 => nI (P2 x9))) ∧ (∀ j, j ≠ 114 → j ≠ 115 → g1 j = g j)) D ad N) 0 0 (AA ad N) := by
  refine mentry (by decide) (Nat.le_of_ble_eq_true rfl) (fun p e s m below meth c ls S hr hlk hnm hP hK hl => ?_)
  have S : CallFix p m c cX10_does 4 s _ wsL_law RX10 := S
  have hx := S.1
  have hb := S.2.1
  have hl : lv_has ls 4 [(0, .ref (ad 114)), (1, .int (nI (S0))), (2, .int (nI (K0)))] := hl
  have hI : MD (AA ad N) ad N := MD.in hinj
  have hS : va_S (AA ad N) s.heap s.heap [] := va_S.rf
  have hfr : ∀ j : Nat, g j = g j := fun _ => rfl
  have hn4 := hw.1.1
  have hn8 := hw.1.2
  have hpm := perm_P hw hPw
  have hf := lt256 hw.2.2.1 hn8
  have hh := lt256 hw.2.2.2.1 hn8
  have ho := hw.2.2.2.2.1
  refine lv_iload_n hx hb dX10_does_0 rfl (lv_at hl 1 rfl) ?_
  refine lv_bipush (v := nI (7)) hx hb dX10_does_1 (by decide) ?_
  refine lv_icmp_ne (tgt := 28) hx hb dX10_does_3 (by decide) (fun c_3 => ?_) (fun c_3 => ?_)
  · skip
    have c_3 := (not_congr (nI_eq (by omega) (by omega))).mp c_3
    refine lv_iload_n hx hb dX10_does_28 rfl (lv_at hl 1 rfl) ?_
    refine lv_iload_n hx hb dX10_does_29 rfl (lv_at hl 2 rfl) ?_
    refine lv_aload_n hx hb dX10_does_30 rfl (lv_at hl 0 rfl) ?_
    refine mg S hK hP (by omega) hM fd_X10_7 rfl dX10_does_31 ?_
    refine kSi (As := [.int (nI (S0)), .int (nI (K0)), .int (nI (wn w))]) (rest := []) S hK hP (c_X10_isAct l D cy ad N g (nI (S0)) (nI (K0)) (wn w) hn4 hn8) cs_X10_165 ⟨rfl, rfl⟩ rfl hl.1 rfl (Nat.le_of_ble_eq_true rfl) ⟨Nat.zero_le _, Nat.zero_le _⟩ dX10_does_34 (fun r_34 q_34 => ?_)
    subst q_34
    refine lv_if_ne (tgt := 42) hx hb dX10_does_37 (by decide) (fun c_37 => ?_) (fun c_37 => ?_)
    · skip
      have c_37 := bz_ne.mp c_37
      obtain ⟨hS5, hKb⟩ := isA_n (n := wn w) hn8 (by omega) (by omega) c_37
      refine lv_iload_n hx hb dX10_does_42 rfl (lv_at hl 1 rfl) ?_
      rcases (show S0 = 0 ∨ S0 = 1 ∨ S0 = 2 ∨ S0 = 3 ∨ S0 = 4 ∨ S0 = 5 by omega) with rfl | rfl | rfl | rfl | rfl | rfl
      · skip
        refine lv_tableIn (tgt := 76) hx hb dX10_does_43 (by decide) (by decide) rfl (by decide) ?_
        have hKn : K0 < wn w := hKb
        refine lv_aload_n hx hb dX10_does_76 rfl (lv_at hl 0 rfl) ?_
        refine lv_iload_n hx hb dX10_does_77 rfl (lv_at hl 2 rfl) ?_
        refine lv_iload_n hx hb dX10_does_78 rfl (lv_at hl 1 rfl) ?_
        refine lv_if_ne (tgt := 86) hx hb dX10_does_79 (by decide) (fun c_79 => ?_) (fun c_79 => ?_)
        · skip
          have c_79 := (not_congr (z_eq (by omega))).mp c_79
          exact absurd c_79 (by decide)
        · skip
          have c_79 := (z_eq (by omega)).mp c_79
          refine lv_iconst (v := nI (1)) hx hb dX10_does_82 (by decide) ?_
          refine lv_goto (tgt := 87) hx hb dX10_does_83 (by decide) ?_
          refine lv_iconst (v := nI (0)) hx hb dX10_does_87 (by decide) ?_
          refine kMi (As := [.int (nI (K0)), .int (nI (1)), .int (nI (0))]) (rest := []) S hK hP hS (fun _ h => h) (c_X10_change l D cy ad N g hinj (by omega) (wn w) (wf w) (wh w) (wo w) un la bo tp ft wr0 wa at0 sp tk vl fi nm dp wy st aP aF aH aO ps mn go vi hM hn4 hn8 P hP9 (wd w) hpm ho hh K0 (by omega) 1 (by omega) 0 (by omega)) cv_X10_169 (by omega) hM ⟨_, _, rfl⟩ ⟨rfl, rfl⟩ rfl hl.1 rfl (Nat.le_of_ble_eq_true rfl) ⟨Nat.zero_le _, Nat.zero_le _⟩ dX10_does_88 (fun r_88 g_1 H locs q_1 hP hS => ?_)
          obtain ⟨q_88, h114_1, h115_1, f_1⟩ := q_1
          subst q_88
          have hfr_1 : ∀ j : Nat, j ≠ 114 → j ≠ 115 → g_1 j = g j := fun j n0 n1 => (f_1 j n0 n1).trans (hfr j )
          exact rMi S hr hlk hP hS ⟨_, (by first | (rw [dsR_y (by omega) hKb hw]; done) | (rw [dsR_y (by omega) hKb hw]; rfl)), (by intro i hi; rw [dsR_y (by omega) hKb hw]; exact chgP (by decide) hw hKn hPw i hi), (by rw [dsR_y (by omega) hKb hw]; exact h114_1), h115_1, hfr_1⟩ dX10_does_91
      · skip
        refine lv_tableIn (tgt := 76) hx hb dX10_does_43 (by decide) (by decide) rfl (by decide) ?_
        have hKn : K0 < wn w := hKb
        refine lv_aload_n hx hb dX10_does_76 rfl (lv_at hl 0 rfl) ?_
        refine lv_iload_n hx hb dX10_does_77 rfl (lv_at hl 2 rfl) ?_
        refine lv_iload_n hx hb dX10_does_78 rfl (lv_at hl 1 rfl) ?_
        refine lv_if_ne (tgt := 86) hx hb dX10_does_79 (by decide) (fun c_79 => ?_) (fun c_79 => ?_)
        · skip
          have c_79 := (not_congr (z_eq (by omega))).mp c_79
          refine lv_iconst (v := nI (0)) hx hb dX10_does_86 (by decide) ?_
          refine lv_iconst (v := nI (0)) hx hb dX10_does_87 (by decide) ?_
          refine kMi (As := [.int (nI (K0)), .int (nI (0)), .int (nI (0))]) (rest := []) S hK hP hS (fun _ h => h) (c_X10_change l D cy ad N g hinj (by omega) (wn w) (wf w) (wh w) (wo w) un la bo tp ft wr0 wa at0 sp tk vl fi nm dp wy st aP aF aH aO ps mn go vi hM hn4 hn8 P hP9 (wd w) hpm ho hh K0 (by omega) 0 (by omega) 0 (by omega)) cv_X10_169 (by omega) hM ⟨_, _, rfl⟩ ⟨rfl, rfl⟩ rfl hl.1 rfl (Nat.le_of_ble_eq_true rfl) ⟨Nat.zero_le _, Nat.zero_le _⟩ dX10_does_88 (fun r_88 g_2 H locs q_2 hP hS => ?_)
          obtain ⟨q_88, h114_2, h115_2, f_2⟩ := q_2
          subst q_88
          have hfr_2 : ∀ j : Nat, j ≠ 114 → j ≠ 115 → g_2 j = g j := fun j n0 n1 => (f_2 j n0 n1).trans (hfr j )
          exact rMi S hr hlk hP hS ⟨_, (by first | (rw [dsR_y (by omega) hKb hw]; done) | (rw [dsR_y (by omega) hKb hw]; rfl)), (by intro i hi; rw [dsR_y (by omega) hKb hw]; exact chgP (by decide) hw hKn hPw i hi), (by rw [dsR_y (by omega) hKb hw]; exact h114_2), h115_2, hfr_2⟩ dX10_does_91
        · skip
          have c_79 := (z_eq (by omega)).mp c_79
          exact absurd c_79 (by decide)
      · skip
        refine lv_tableIn (tgt := 92) hx hb dX10_does_43 (by decide) (by decide) rfl (by decide) ?_
        have hKn : K0 < wn w := hKb
        have hdk := hw.2.1.1 K0 hKn
        refine lv_aload_n hx hb dX10_does_92 rfl (lv_at hl 0 rfl) ?_
        refine lv_dup hx hb dX10_does_93 rfl ?_
        refine mg S hK hP (by omega) hM fd_X10_17 rfl dX10_does_94 ?_
        refine lv_iconst (v := nI (1)) hx hb dX10_does_97 (by decide) ?_
        refine lv_aload_n hx hb dX10_does_98 rfl (lv_at hl 0 rfl) ?_
        refine lv_iload_n hx hb dX10_does_99 rfl (lv_at hl 2 rfl) ?_
        refine kVi (As := [.int (nI (K0))]) (rest := [.int (nI (1)), .int (nI (wf w)), .ref (ad 114)]) S hK hP (c_X10_dancerAt l D cy ad N g (by omega) (wn w) (wf w) (wh w) (wo w) un la bo tp ft wr0 wa at0 sp tk vl fi nm dp wy st aP aF aH aO ps mn go vi hM hn4 hn8 P hP9 (wd w) hpm K0 (by omega)) cv_X10_135 (by omega) hM ⟨_, _, rfl⟩ ⟨rfl, rfl⟩ rfl hl.1 rfl (Nat.le_of_ble_eq_true rfl) ⟨Nat.zero_le _, Nat.zero_le _⟩ dX10_does_100 (fun r_100 q_100 => ?_)
        subst q_100
        refine lv_ishl hx hb dX10_does_103 ?_
        refine tpi (shlN 1 (by omega)) ?_
        refine tpi (by rw [Nat.one_mul]) ?_
        refine lv_ixor hx hb dX10_does_104 ?_
        refine tpi (nx_xor (wf w) (2 ^ wd w K0)) ?_
        refine mp S hK hP hI hS (by omega) hM fd_X10_17 rfl rfl (Nat.le_of_ble_eq_true rfl) dX10_does_105 (fun g_3 H locs eg_3 hP hS => ?_)
        have h114_3 : g_3 114 = mob ad (nI (wn w)) (nI ((wf w) ^^^ (2 ^ wd w K0))) (nI (wh w)) (lN (wo w)) (nI (un)) la bo (nI (tp)) ft (nI (wr0)) (nI (wa)) (nI (at0)) (nI (sp)) (nI (tk)) vl (nI (fi)) (nI (nm)) (nI (dp)) wy st (nI (aP)) (nI (aF)) (nI (aH)) (lN aO) (nI (ps)) (nI (mn)) go (nI (vi)) := by rw [eg_3, va_up_self]; exact rfl
        have h115_3 : g_3 115 = .inl (cy 1, 8, .inl (fun x9 => nI (P x9))) := ((congrFun eg_3 _).trans (va_up_ne _ _ (by omega))).trans hP9
        have hfr_3 : ∀ j : Nat, j ≠ 114 → g_3 j = g j := fun j n0 => ((congrFun eg_3 _).trans (va_up_ne _ _ n0)).trans (hfr j )
        refine lv_iconst (v := nI (1)) hx hb dX10_does_108 (by decide) ?_
        exact rMi S hr hlk hP hS ⟨_, (by first | (rw [dsR_y (by omega) hKb hw]; done) | (rw [dsR_y (by omega) hKb hw]; rfl)), (by intro i hi; rw [dsR_y (by omega) hKb hw]; exact hPw i hi), (by rw [dsR_y (by omega) hKb hw]; exact h114_3), h115_3, (fun j n0 n1 => hfr_3 j (by omega))⟩ dX10_does_109
      · skip
        refine lv_tableIn (tgt := 110) hx hb dX10_does_43 (by decide) (by decide) rfl (by decide) ?_
        have hKn : K0 < 8 := hKb
        refine lv_aload_n hx hb dX10_does_110 rfl (lv_at hl 0 rfl) ?_
        refine lv_iload_n hx hb dX10_does_111 rfl (lv_at hl 2 rfl) ?_
        refine kMv (As := [.int (nI (K0))]) (rest := []) S hK hP hS (fun _ h => h) (c_X10_goRound l D cy ad N g hinj (by omega) (wn w) (wf w) (wh w) (wo w) un la bo tp ft wr0 wa at0 sp tk vl fi nm dp wy st aP aF aH aO ps mn go vi hM hn4 hn8 P hP9 (wd w) hpm K0 (by first | omega | exact Nat.lt_of_lt_of_le (Nat.mod_lt _ (by omega)) (by omega))) cv_X10_161 (by omega) hM ⟨_, _, rfl⟩ ⟨rfl, rfl⟩ rfl hl.1 rfl (Nat.le_of_ble_eq_true rfl) ⟨Nat.zero_le _, Nat.zero_le _⟩ dX10_does_112 (fun g_4 H locs q_4 hP hS => ?_)
        obtain ⟨h115_4, f_4⟩ := q_4
        have h114_4 : g_4 114 = mob ad (nI (wn w)) (nI (wf w)) (nI (wh w)) (lN (wo w)) (nI (un)) la bo (nI (tp)) ft (nI (wr0)) (nI (wa)) (nI (at0)) (nI (sp)) (nI (tk)) vl (nI (fi)) (nI (nm)) (nI (dp)) wy st (nI (aP)) (nI (aF)) (nI (aH)) (lN aO) (nI (ps)) (nI (mn)) go (nI (vi)) := (f_4 114 (by omega)).trans hM
        have hfr_4 : ∀ j : Nat, j ≠ 115 → g_4 j = g j := fun j n0 => (f_4 j n0).trans (hfr j )
        refine lv_iconst (v := nI (1)) hx hb dX10_does_115 (by decide) ?_
        exact rMi S hr hlk hP hS ⟨_, (by first | (rw [dsR_y (by omega) hKb hw]; done) | (rw [dsR_y (by omega) hKb hw]; rfl)), (by intro i hi; rw [dsR_y (by omega) hKb hw]; exact chgR hKn hw hPw i hi), (by rw [dsR_y (by omega) hKb hw]; exact h114_4), h115_4, (fun j n0 n1 => hfr_4 j (by omega))⟩ dX10_does_116
      · skip
        refine lv_tableIn (tgt := 117) hx hb dX10_does_43 (by decide) (by decide) rfl (by decide) ?_
        have hKn : K0 < wn w := hKb
        refine lv_aload_n hx hb dX10_does_117 rfl (lv_at hl 0 rfl) ?_
        refine lv_iload_n hx hb dX10_does_118 rfl (lv_at hl 2 rfl) ?_
        refine kVi (As := [.int (nI (K0))]) (rest := []) S hK hP (c_X10_isHeld l D cy ad N g (by omega) (wn w) (wf w) (wh w) (wo w) un la bo tp ft wr0 wa at0 sp tk vl fi nm dp wy st aP aF aH aO ps mn go vi hM K0 (by omega) hh) cv_X10_139 (by omega) hM ⟨_, _, rfl⟩ ⟨rfl, rfl⟩ rfl hl.1 rfl (Nat.le_of_ble_eq_true rfl) ⟨Nat.zero_le _, Nat.zero_le _⟩ dX10_does_119 (fun r_119 q_119 => ?_)
        subst q_119
        refine lv_if_ne (tgt := 128) hx hb dX10_does_122 (by decide) (fun c_122 => ?_) (fun c_122 => ?_)
        · skip
          have c_122 := bz_ne.mp c_122
          refine lv_aload_n hx hb dX10_does_128 rfl (lv_at hl 0 rfl) ?_
          refine lv_dup hx hb dX10_does_129 rfl ?_
          refine mg S hK hP (by omega) hM fd_X10_20 rfl dX10_does_130 ?_
          refine lv_iconst (v := nI (1)) hx hb dX10_does_133 (by decide) ?_
          refine lv_iload_n hx hb dX10_does_134 rfl (lv_at hl 2 rfl) ?_
          refine lv_ishl hx hb dX10_does_135 ?_
          refine tpi (shlN 1 (by omega)) ?_
          refine tpi (by rw [Nat.one_mul]) ?_
          refine lv_iconst (v := (-1)) hx hb dX10_does_136 (by decide) ?_
          refine lv_ixor hx hb dX10_does_137 ?_
          refine lv_iand hx hb dX10_does_138 ?_
          refine tpi (nI_an _ _) ?_
          refine mp S hK hP hI hS (by omega) hM fd_X10_20 rfl rfl (Nat.le_of_ble_eq_true rfl) dX10_does_139 (fun g_5 H locs eg_5 hP hS => ?_)
          have h114_5 : g_5 114 = mob ad (nI (wn w)) (nI (wf w)) (nI (an (wh w) (2 ^ K0))) (lN (wo w)) (nI (un)) la bo (nI (tp)) ft (nI (wr0)) (nI (wa)) (nI (at0)) (nI (sp)) (nI (tk)) vl (nI (fi)) (nI (nm)) (nI (dp)) wy st (nI (aP)) (nI (aF)) (nI (aH)) (lN aO) (nI (ps)) (nI (mn)) go (nI (vi)) := by rw [eg_5, va_up_self]; exact rfl
          have h115_5 : g_5 115 = .inl (cy 1, 8, .inl (fun x9 => nI (P x9))) := ((congrFun eg_5 _).trans (va_up_ne _ _ (by omega))).trans hP9
          have hfr_5 : ∀ j : Nat, j ≠ 114 → g_5 j = g j := fun j n0 => ((congrFun eg_5 _).trans (va_up_ne _ _ n0)).trans (hfr j )
          refine lv_iconst (v := nI (0)) hx hb dX10_does_142 (by decide) ?_
          refine lv_istore_n (lv' := [(3, .int (nI (0))), (0, .ref (ad 114)), (1, .int (nI (4))), (2, .int (nI (K0)))]) hx hb dX10_does_143 rfl hl (by decide) rfl (fun ls hl => ?_)
          have L144 : ∀ (fu : Nat) (j : Nat), (j ≤ wn w) → (wn w - j) < fu → ∀ (g_6 : Nat → va_E) (H : Heap) (locs : List Loc), g_6 114 = mob ad (nI (wn w)) (nI (wf w)) (nI (an (wh w) (2 ^ K0))) (lN (drp (wo w) K0 j)) (nI (un)) la bo (nI (tp)) ft (nI (wr0)) (nI (wa)) (nI (at0)) (nI (sp)) (nI (tk)) vl (nI (fi)) (nI (nm)) (nI (dp)) wy st (nI (aP)) (nI (aF)) (nI (aH)) (lN aO) (nI (ps)) (nI (mn)) go (nI (vi)) → (∀ j : Nat, j ≠ 114 → g_6 j = g j) → MM D ad N g_6 H → va_S (AA ad N) s.heap H locs → ∀ (ls : Array Slot), lv_has ls 4 [(3, .int (nI (j))), (0, .ref (ad 114)), (1, .int (nI (4))), (2, .int (nI (K0)))] → W p l e (rmF 3 73) s m [.ref (ad 114), .int (nI (4)), .int (nI (K0))].toArray below meth c H locs 0 0 (MQ below (QI (fun r g1 => ∃ (P2 : Nat → Nat), (r = (dsR w 4 K0).1) ∧ (∀ i, i < wn w → P2 i = wp (dsR w 4 K0).2 i) ∧ g1 114 = mob ad (nI (wn w)) (nI (wf (dsR w 4 K0).2)) (nI (wh (dsR w 4 K0).2)) (lN (wo (dsR w 4 K0).2)) (nI (un)) la bo (nI (tp)) ft (nI (wr0)) (nI (wa)) (nI (at0)) (nI (sp)) (nI (tk)) vl (nI (fi)) (nI (nm)) (nI (dp)) wy st (nI (aP)) (nI (aF)) (nI (aH)) (lN aO) (nI (ps)) (nI (mn)) go (nI (vi)) ∧ g1 115 = .inl (cy 1, 8, .inl (fun x9 => nI (P2 x9))) ∧ (∀ j, j ≠ 114 → j ≠ 115 → g1 j = g j)) D ad N) [.ref (ad 114), .int (nI (4)), .int (nI (K0))].toArray s 0 0 (AA ad N)) (F0 m 144 ls []) := by
            intro fu
            induction fu with
            | zero => intro j hj hms g_6 H locs h114_6 hfr_6 hP hS ls hl; exact absurd hms (Nat.not_lt_zero _)
            | succ fu ih144 =>
              intro j hj hms g_6 H locs h114_6 hfr_6 hP hS ls hl
              have h115_6 : g_6 115 = .inl (cy 1, 8, .inl (fun x9 => nI (P x9))) := (hfr_6 115 (by omega)).trans hP9
              refine lv_iload_n hx hb dX10_does_144 rfl (lv_at hl 0 rfl) ?_
              refine lv_aload_n hx hb dX10_does_145 rfl (lv_at hl 1 rfl) ?_
              refine mg S hK hP (by omega) h114_6 fd_X10_7 rfl dX10_does_146 ?_
              refine lv_icmp_ge (tgt := 172) hx hb dX10_does_149 (by decide) (fun c_149 => ?_) (fun c_149 => ?_)
              · skip
                have c_149 := (nI_leI (by omega) (by omega)).mp c_149
                refine lv_iconst (v := nI (1)) hx hb dX10_does_172 (by decide) ?_
                have e : j = wn w := by omega
                subst e
                exact rMi S hr hlk hP hS ⟨_, (by first | (rw [dsR_y (by omega) hKb hw, chgN_4t c_122]; done) | (rw [dsR_y (by omega) hKb hw, chgN_4t c_122]; rfl)), (by intro i hi; rw [dsR_y (by omega) hKb hw, chgN_4t c_122]; exact hPw i hi), (by rw [dsR_y (by omega) hKb hw, chgN_4t c_122, ← drp_e hn8 hKn hw.2.2.2.2]; exact h114_6), h115_6, (fun j n0 n1 => hfr_6 j (by omega))⟩ dX10_does_173
              · skip
                have c_149 := (not_congr (nI_leI (by omega) (by omega))).mp c_149
                refine lv_aload_n hx hb dX10_does_152 rfl (lv_at hl 1 rfl) ?_
                refine lv_iload_n hx hb dX10_does_153 rfl (lv_at hl 3 rfl) ?_
                refine lv_iload_n hx hb dX10_does_154 rfl (lv_at hl 0 rfl) ?_
                refine lv_iconst (v := nI (0)) hx hb dX10_does_155 (by decide) ?_
                refine kMv (As := [.int (nI (K0)), .int (nI (j)), .int (nI (0))]) (rest := []) S hK hP hS (fun _ h => h) (c_X10_lays l D cy ad N g_6 hinj (by omega) (wn w) (wf w) (an (wh w) (2 ^ K0)) (drp (wo w) K0 j) un la bo tp ft wr0 wa at0 sp tk vl fi nm dp wy st aP aF aH aO ps mn go vi h114_6 (drp_lt ho j) K0 (by omega) j (by omega) 0 (by omega)) cv_X10_149 (by omega) h114_6 ⟨_, _, rfl⟩ ⟨rfl, rfl⟩ rfl hl.1 rfl (Nat.le_of_ble_eq_true rfl) ⟨Nat.zero_le _, Nat.zero_le _⟩ dX10_does_156 (fun g_7 H locs q_7 hP hS => ?_)
                obtain ⟨h114_7, f_7⟩ := q_7
                have h115_7 : g_7 115 = .inl (cy 1, 8, .inl (fun x9 => nI (P x9))) := (f_7 115 (by omega)).trans h115_6
                have hfr_7 : ∀ j : Nat, j ≠ 114 → g_7 j = g j := fun j n0 => (f_7 j n0).trans (hfr_6 j n0)
                refine lv_aload_n hx hb dX10_does_159 rfl (lv_at hl 1 rfl) ?_
                refine lv_iload_n hx hb dX10_does_160 rfl (lv_at hl 0 rfl) ?_
                refine lv_iload_n hx hb dX10_does_161 rfl (lv_at hl 3 rfl) ?_
                refine lv_iconst (v := nI (0)) hx hb dX10_does_162 (by decide) ?_
                refine kMv (As := [.int (nI (j)), .int (nI (K0)), .int (nI (0))]) (rest := []) S hK hP hS (fun _ h => h) (c_X10_lays l D cy ad N g_7 hinj (by omega) ((wn w)) ((wf w)) ((an (wh w) (2 ^ K0))) (if 0 = 0 then an (drp (wo w) K0 j) (2 ^ (8 * K0 + j)) else (drp (wo w) K0 j) ||| 2 ^ (8 * K0 + j)) un la bo tp ft wr0 wa at0 sp tk vl fi nm dp wy st aP aF aH aO ps mn go vi h114_7 (an_le (k := 64) _ _ (drp_lt ho j)) j (by omega) K0 (by omega) 0 (by omega)) cv_X10_149 (by omega) h114_7 ⟨_, _, rfl⟩ ⟨rfl, rfl⟩ rfl hl.1 rfl (Nat.le_of_ble_eq_true rfl) ⟨Nat.zero_le _, Nat.zero_le _⟩ dX10_does_163 (fun g_8 H locs q_8 hP hS => ?_)
                obtain ⟨h114_8, f_8⟩ := q_8
                have h115_8 : g_8 115 = .inl (cy 1, 8, .inl (fun x9 => nI (P x9))) := (f_8 115 (by omega)).trans h115_7
                have hfr_8 : ∀ j : Nat, j ≠ 114 → g_8 j = g j := fun j n0 => (f_8 j n0).trans (hfr_7 j n0)
                refine lv_iinc (v := nI (j + 1)) (lv' := [(3, .int (nI (j + 1))), (0, .ref (ad 114)), (1, .int (nI (4))), (2, .int (nI (K0)))]) hx hb dX10_does_166 hl (k := 0) rfl (by exact nI_add j 1) (by decide) rfl (fun ls hl => ?_)
                refine lv_goto (tgt := 144) hx hb dX10_does_169 (by decide) ?_
                exact ih144 (j + 1) (by omega) (by omega) g_8 _ _ h114_8 hfr_8 hP hS _ (lv_sub hl [0, 1, 2, 3] rfl)
          exact L144 ((wn w - 0) + 1) 0 (by omega) (Nat.lt_succ_self _) g_5 _ _ h114_5 hfr_5 hP hS _ (lv_sub hl [0, 1, 2, 3] rfl)
        · skip
          have c_122 := bz_eq.mp c_122
          refine lv_bipush (v := (-2)) hx hb dX10_does_125 (by decide) ?_
          exact rMi S hr hlk hP hS ⟨_, (by first | (rw [dsR_y (by omega) hKb hw, chgN_4f (bF c_122)]; done) | (rw [dsR_y (by omega) hKb hw, chgN_4f (bF c_122)]; rfl)), (by intro i hi; rw [dsR_y (by omega) hKb hw, chgN_4f (bF c_122)]; exact hPw i hi), (by rw [dsR_y (by omega) hKb hw, chgN_4f (bF c_122)]; exact hM), hP9, (fun j n0 n1 => hfr j )⟩ dX10_does_127
      · skip
        refine lv_tableOut (tgt := 174) hx hb dX10_does_43 (by decide) (by decide) ?_
        have hKn : K0 < wn w := hKb
        refine lv_aload_n hx hb dX10_does_174 rfl (lv_at hl 0 rfl) ?_
        refine lv_iload_n hx hb dX10_does_175 rfl (lv_at hl 2 rfl) ?_
        refine kVi (As := [.int (nI (K0))]) (rest := []) S hK hP (c_X10_isHeld l D cy ad N g (by omega) (wn w) (wf w) (wh w) (wo w) un la bo tp ft wr0 wa at0 sp tk vl fi nm dp wy st aP aF aH aO ps mn go vi hM K0 (by omega) hh) cv_X10_139 (by omega) hM ⟨_, _, rfl⟩ ⟨rfl, rfl⟩ rfl hl.1 rfl (Nat.le_of_ble_eq_true rfl) ⟨Nat.zero_le _, Nat.zero_le _⟩ dX10_does_176 (fun r_176 q_176 => ?_)
        subst q_176
        refine lv_if_ne (tgt := 190) hx hb dX10_does_179 (by decide) (fun c_179 => ?_) (fun c_179 => ?_)
        · skip
          have c_179 := bz_ne.mp c_179
          have hb9 : ¬ ((wh w).testBit K0 = false ∧ bsd (wn w) (wp w) K0 = true) := fun q => by rw [c_179] at q; cases q.1
          refine lv_bipush (v := (-2)) hx hb dX10_does_190 (by decide) ?_
          exact rMi S hr hlk hP hS ⟨_, (by first | (rw [dsR_y (by omega) hKb hw, chgN_5n hb9]; done) | (rw [dsR_y (by omega) hKb hw, chgN_5n hb9]; rfl)), (by intro i hi; rw [dsR_y (by omega) hKb hw, chgN_5n hb9]; exact hPw i hi), (by rw [dsR_y (by omega) hKb hw, chgN_5n hb9]; exact hM), hP9, (fun j n0 n1 => hfr j )⟩ dX10_does_192
        · skip
          have c_179 := bz_eq.mp c_179
          refine lv_aload_n hx hb dX10_does_182 rfl (lv_at hl 0 rfl) ?_
          refine lv_iload_n hx hb dX10_does_183 rfl (lv_at hl 2 rfl) ?_
          refine kVi (As := [.int (nI (K0))]) (rest := []) S hK hP (c_X10_areBeside l D cy ad N g (by omega) (wn w) (wf w) (wh w) (wo w) un la bo tp ft wr0 wa at0 sp tk vl fi nm dp wy st aP aF aH aO ps mn go vi hM hn4 hn8 P hP9 (wd w) hpm K0 (by omega)) cv_X10_173 (by omega) hM ⟨_, _, rfl⟩ ⟨rfl, rfl⟩ rfl hl.1 rfl (Nat.le_of_ble_eq_true rfl) ⟨Nat.zero_le _, Nat.zero_le _⟩ dX10_does_184 (fun r_184 q_184 => ?_)
          subst q_184
          refine lv_if_ne (tgt := 193) hx hb dX10_does_187 (by decide) (fun c_187 => ?_) (fun c_187 => ?_)
          · skip
            have c_187 := bz_ne.mp c_187
            have hb9 : (wh w).testBit K0 = false ∧ bsd (wn w) (wp w) K0 = true := ⟨bF c_179, by rw [← bsd_P hn4 (show K0 < wn w from hKb) hPw]; exact c_187⟩
            refine lv_aload_n hx hb dX10_does_193 rfl (lv_at hl 0 rfl) ?_
            refine lv_dup hx hb dX10_does_194 rfl ?_
            refine mg S hK hP (by omega) hM fd_X10_20 rfl dX10_does_195 ?_
            refine lv_iconst (v := nI (1)) hx hb dX10_does_198 (by decide) ?_
            refine lv_iload_n hx hb dX10_does_199 rfl (lv_at hl 2 rfl) ?_
            refine lv_ishl hx hb dX10_does_200 ?_
            refine tpi (shlN 1 (by omega)) ?_
            refine tpi (by rw [Nat.one_mul]) ?_
            refine lv_ior hx hb dX10_does_201 ?_
            refine tpi (nI_or (wh w) (2 ^ K0)) ?_
            refine mp S hK hP hI hS (by omega) hM fd_X10_20 rfl rfl (Nat.le_of_ble_eq_true rfl) dX10_does_202 (fun g_9 H locs eg_9 hP hS => ?_)
            have h114_9 : g_9 114 = mob ad (nI (wn w)) (nI (wf w)) (nI ((wh w) ||| (2 ^ K0))) (lN (wo w)) (nI (un)) la bo (nI (tp)) ft (nI (wr0)) (nI (wa)) (nI (at0)) (nI (sp)) (nI (tk)) vl (nI (fi)) (nI (nm)) (nI (dp)) wy st (nI (aP)) (nI (aF)) (nI (aH)) (lN aO) (nI (ps)) (nI (mn)) go (nI (vi)) := by rw [eg_9, va_up_self]; exact rfl
            have h115_9 : g_9 115 = .inl (cy 1, 8, .inl (fun x9 => nI (P x9))) := ((congrFun eg_9 _).trans (va_up_ne _ _ (by omega))).trans hP9
            have hfr_9 : ∀ j : Nat, j ≠ 114 → g_9 j = g j := fun j n0 => ((congrFun eg_9 _).trans (va_up_ne _ _ n0)).trans (hfr j )
            refine lv_iconst (v := nI (1)) hx hb dX10_does_205 (by decide) ?_
            exact rMi S hr hlk hP hS ⟨_, (by first | (rw [dsR_y (by omega) hKb hw, chgN_5y hb9]; done) | (rw [dsR_y (by omega) hKb hw, chgN_5y hb9]; rfl)), (by intro i hi; rw [dsR_y (by omega) hKb hw, chgN_5y hb9]; exact hPw i hi), (by rw [dsR_y (by omega) hKb hw, chgN_5y hb9]; exact h114_9), h115_9, (fun j n0 n1 => hfr_9 j (by omega))⟩ dX10_does_206
          · skip
            have c_187 := bz_eq.mp c_187
            have hb9 : ¬ ((wh w).testBit K0 = false ∧ bsd (wn w) (wp w) K0 = true) := fun q => c_187 (by rw [bsd_P hn4 (show K0 < wn w from hKb) hPw]; exact q.2)
            refine lv_bipush (v := (-2)) hx hb dX10_does_190 (by decide) ?_
            exact rMi S hr hlk hP hS ⟨_, (by first | (rw [dsR_y (by omega) hKb hw, chgN_5n hb9]; done) | (rw [dsR_y (by omega) hKb hw, chgN_5n hb9]; rfl)), (by intro i hi; rw [dsR_y (by omega) hKb hw, chgN_5n hb9]; exact hPw i hi), (by rw [dsR_y (by omega) hKb hw, chgN_5n hb9]; exact hM), hP9, (fun j n0 n1 => hfr j )⟩ dX10_does_192
    · skip
      have c_37 := bz_eq.mp c_37
      have hA : ¬ isA (wn w) (nI S0) (nI K0) := c_37
      refine lv_iconst (v := (-1)) hx hb dX10_does_40 (by decide) ?_
      exact rMi S hr hlk hP hS ⟨_, (by first | (rw [dsR_no c_3 hA]; done) | (rw [dsR_no c_3 hA]; rfl)), (by intro i hi; rw [dsR_no c_3 hA]; exact hPw i hi), (by rw [dsR_no c_3 hA]; exact hM), hP9, (fun j n0 n1 => hfr j )⟩ dX10_does_41
  · skip
    have c_3 := (nI_eq (by omega) (by omega)).mp c_3
    subst c_3
    obtain ⟨km, hkm1, hkm2⟩ : ∃ km, K0 % wn w = km ∧ km < wn w := ⟨_, rfl, Nat.mod_lt _ (by omega)⟩
    refine lv_aload_n hx hb dX10_does_6 rfl (lv_at hl 0 rfl) ?_
    refine lv_aload_n hx hb dX10_does_7 rfl (lv_at hl 0 rfl) ?_
    refine mg S hK hP (by omega) hM fd_X10_7 rfl dX10_does_8 ?_
    refine lv_iload_n hx hb dX10_does_11 rfl (lv_at hl 2 rfl) ?_
    refine lv_aload_n hx hb dX10_does_12 rfl (lv_at hl 0 rfl) ?_
    refine mg S hK hP (by omega) hM fd_X10_7 rfl dX10_does_13 ?_
    refine lv_irem hx hb dX10_does_16 (fun h => by have h := (z_eq (by omega)).mp h; omega) ?_
    refine tpi (pk_rem (a := K0) (by omega) (by omega) (by omega)) ?_
    refine tpi (congrArg nI hkm1) ?_
    refine lv_isub hx hb dX10_does_17 ?_
    refine tpi (pk_sub (a := wn w) (b := km) (by omega)) ?_
    refine lv_aload_n hx hb dX10_does_18 rfl (lv_at hl 0 rfl) ?_
    refine mg S hK hP (by omega) hM fd_X10_7 rfl dX10_does_19 ?_
    refine lv_irem hx hb dX10_does_22 (fun h => by have h := (z_eq (by omega)).mp h; omega) ?_
    refine tpi (pk_rem (a := wn w - km) (by omega) (by omega) (by omega)) ?_
    refine kMv (As := [.int (nI ((wn w - km) % (wn w)))]) (rest := []) S hK hP hS (fun _ h => h) (c_X10_goRound l D cy ad N g hinj (by omega) (wn w) (wf w) (wh w) (wo w) un la bo tp ft wr0 wa at0 sp tk vl fi nm dp wy st aP aF aH aO ps mn go vi hM hn4 hn8 P hP9 (wd w) hpm ((wn w - km) % (wn w)) (by first | omega | exact Nat.lt_of_lt_of_le (Nat.mod_lt _ (by omega)) (by omega))) cv_X10_161 (by omega) hM ⟨_, _, rfl⟩ ⟨rfl, rfl⟩ rfl hl.1 rfl (Nat.le_of_ble_eq_true rfl) ⟨Nat.zero_le _, Nat.zero_le _⟩ dX10_does_23 (fun g_10 H locs q_10 hP hS => ?_)
    obtain ⟨h115_10, f_10⟩ := q_10
    have h114_10 : g_10 114 = mob ad (nI (wn w)) (nI (wf w)) (nI (wh w)) (lN (wo w)) (nI (un)) la bo (nI (tp)) ft (nI (wr0)) (nI (wa)) (nI (at0)) (nI (sp)) (nI (tk)) vl (nI (fi)) (nI (nm)) (nI (dp)) wy st (nI (aP)) (nI (aF)) (nI (aH)) (lN aO) (nI (ps)) (nI (mn)) go (nI (vi)) := (f_10 114 (by omega)).trans hM
    have hfr_10 : ∀ j : Nat, j ≠ 115 → g_10 j = g j := fun j n0 => (f_10 j n0).trans (hfr j )
    refine lv_iconst (v := nI (1)) hx hb dX10_does_26 (by decide) ?_
    exact rMi S hr hlk hP hS ⟨_, (by first | (rw [dsR_7 hK0 hw]; done) | (rw [dsR_7 hK0 hw]; rfl)), (by intro i hi; rw [dsR_7 hK0 hw]; subst hkm1; exact chgR7 hK0 hw hPw i hi), (by rw [dsR_7 hK0 hw]; exact h114_10), h115_10, (fun j n0 n1 => hfr_10 j (by omega))⟩ dX10_does_27

set_option maxHeartbeats 4000000 in
set_option maxRecDepth 100000 in
theorem c_X10_blade (l : Launch) (D : va_G) (cy : Nat → ClassId) (ad : Nat → Nat) (N : Nat) (g : Nat → va_E) (hinj : ∀ i j : Nat, i < N → j < N → ad i = ad j → i = j) (hN : 145 ≤ N) (w : WT) (un : Nat) (la : Int32) (bo : Int32) (tp : Nat) (ft : Int32) (wr0 : Nat) (wa : Nat) (at0 : Nat) (sp : Nat) (tk : Nat) (vl : Int32) (fi : Nat) (nm : Nat) (dp : Nat) (wy : Int32) (st : Int32) (aP : Nat) (aF : Nat) (aH : Nat) (aO : Nat) (ps : Nat) (mn : Nat) (go : Int32) (vi : Nat) (hM : g 114 = mob ad (nI (wn w)) (nI (wf w)) (nI (wh w)) (lN (wo w)) (nI (un)) la bo (nI (tp)) ft (nI (wr0)) (nI (wa)) (nI (at0)) (nI (sp)) (nI (tk)) vl (nI (fi)) (nI (nm)) (nI (dp)) wy st (nI (aP)) (nI (aF)) (nI (aH)) (lN aO) (nI (ps)) (nI (mn)) go (nI (vi))) (P : Nat → Nat) (hP9 : g 115 = .inl (cy 1, 8, .inl (fun x9 => nI (P x9)))) (hw : WOK w) (hPw : ∀ i, i < wn w → P i = wp w i) (LB : Nat → Int32) (hLB0 : g 120 = .inl (cy 1, 8, .inl LB)) (x0 : Int32) (what : Int32) : Met l yX10_blade (WS yX10_blade cX10_blade 5 (some .int)) (rmF 2 48) (PP [.ref (ad 114), .int x0, .int what] D cy ad N g) (QI (fun r g1 => ∃ (LB2 : Nat → Int32), ∃ (la2 : Int32), ∃ (bo2 : Int32), (r = if isI x0 (wn w) then blN w x0.toNatClampNeg what else -1) ∧ g1 114 = mob ad (nI (wn w)) (nI (wf w)) (nI (wh w)) (lN (wo w)) (nI (un)) la2 bo2 (nI (tp)) ft (nI (wr0)) (nI (wa)) (nI (at0)) (nI (sp)) (nI (tk)) vl (nI (fi)) (nI (nm)) (nI (dp)) wy st (nI (aP)) (nI (aF)) (nI (aH)) (lN aO) (nI (ps)) (nI (mn)) go (nI (vi)) ∧ g1 120 = .inl (cy 1, 8, .inl LB2) ∧ (∀ j, j ≠ 114 → j ≠ 120 → g1 j = g j)) D ad N) 0 0 (AA ad N) := by
  refine mentry (by decide) (Nat.le_of_ble_eq_true rfl) (fun p e s m below meth c ls S hr hlk hnm hP hK hl => ?_)
  have S : CallFix p m c cX10_blade 5 s _ wsL_law RX10 := S
  have hx := S.1
  have hb := S.2.1
  have hl : lv_has ls 5 [(0, .ref (ad 114)), (1, .int x0), (2, .int what)] := hl
  have hI : MD (AA ad N) ad N := MD.in hinj
  have hS : va_S (AA ad N) s.heap s.heap [] := va_S.rf
  have hfr : ∀ j : Nat, g j = g j := fun _ => rfl
  have hn4 := hw.1.1
  have hn8 := hw.1.2
  have hpm := perm_P hw hPw
  have hf := lt256 hw.2.2.1 hn8
  have hh := lt256 hw.2.2.2.1 hn8
  have ho := hw.2.2.2.2.1
  refine lv_iload_n hx hb dX10_blade_0 rfl (lv_at hl 1 rfl) ?_
  refine lv_i2l hx hb dX10_blade_1 rfl ?_
  refine lv_lconst (v := lN 0) hx hb dX10_blade_2 (by decide) ?_
  refine lv_aload_n hx hb dX10_blade_3 rfl (lv_at hl 0 rfl) ?_
  refine mg S hK hP (by omega) hM fd_X10_7 rfl dX10_blade_4 ?_
  refine lv_iconst (v := nI (1)) hx hb dX10_blade_7 (by decide) ?_
  refine lv_isub hx hb dX10_blade_8 ?_
  refine tpi (pk_sub (a := wn w) (b := 1) (by omega)) ?_
  refine lv_i2l hx hb dX10_blade_9 rfl ?_
  refine tpl (nI_l (by omega)) ?_
  refine kSi (As := [.long x0.toInt64, .long (lN 0), .long (lN (wn w - 1))]) (rest := []) S hK hP (c_X10_in l D cy ad N g x0.toInt64 (lN 0) (lN (wn w - 1))) cs_X10_115 ⟨rfl, rfl⟩ rfl hl.1 rfl (Nat.le_of_ble_eq_true rfl) ⟨Nat.zero_le _, Nat.zero_le _⟩ dX10_blade_10 (fun r_10 q_10 => ?_)
  subst q_10
  refine tpi (ifC (in_0 (by omega) (by omega))) ?_
  refine lv_if_eq (tgt := 28) hx hb dX10_blade_13 (by decide) (fun c_13 => ?_) (fun c_13 => ?_)
  · skip
    have c_13 := bz_eq.mp c_13
    have hJ : ¬ isI x0 (wn w) := c_13
    refine lv_iconst (v := (-1)) hx hb dX10_blade_28 (by decide) ?_
    exact rMi S hr hlk hP hS ⟨LB, la, bo, (if_neg hJ).symm, hM, hLB0, (fun j n0 n1 => hfr j )⟩ dX10_blade_29
  · skip
    have c_13 := bz_ne.mp c_13
    obtain ⟨i0, hi0b, rfl⟩ := isI_nat (by omega) c_13
    have hJ := c_13
    have hi031 : i0 < 2 ^ 31 := by omega
    refine lv_iload_n hx hb dX10_blade_16 rfl (lv_at hl 2 rfl) ?_
    refine lv_i2l hx hb dX10_blade_17 rfl ?_
    refine lv_lconst (v := lN 0) hx hb dX10_blade_18 (by decide) ?_
    refine lv_ldc2 hx hb S.2.2.2.1 (S.2.2.2.2 _ m_X10_111) dX10_blade_19 ?_
    refine tpl (show (4 : Int64) = lN 4 from rfl) ?_
    refine kSi (As := [.long what.toInt64, .long (lN 0), .long (lN 4)]) (rest := []) S hK hP (c_X10_in l D cy ad N g what.toInt64 (lN 0) (lN 4)) cs_X10_115 ⟨rfl, rfl⟩ rfl hl.1 rfl (Nat.le_of_ble_eq_true rfl) ⟨Nat.zero_le _, Nat.zero_le _⟩ dX10_blade_22 (fun r_22 q_22 => ?_)
    subst q_22
    refine tpi (ifC (in_45 (by omega) (by omega))) ?_
    refine lv_if_ne (tgt := 30) hx hb dX10_blade_25 (by decide) (fun c_25 => ?_) (fun c_25 => ?_)
    · skip
      have c_25 := bz_ne.mp c_25
      obtain ⟨wj, hwjb, rfl⟩ := nI_of (x := what) c_25.1
      have hwj : wj ≤ 4 := by have := (not_congr (nI_ltI (by omega) hwjb)).mp c_25.2; omega
      refine lv_iload_n hx hb dX10_blade_30 rfl (lv_at hl 2 rfl) ?_
      refine lv_iconst (v := nI (3)) hx hb dX10_blade_31 (by decide) ?_
      refine lv_icmp_ne (tgt := 78) hx hb dX10_blade_32 (by decide) (fun c_32 => ?_) (fun c_32 => ?_)
      · skip
        have c_32 := (not_congr (nI_eq (by omega) (by omega))).mp c_32
        refine lv_aload_n hx hb dX10_blade_78 rfl (lv_at hl 0 rfl) ?_
        refine kMv (As := []) (rest := []) S hK hP hS (fun _ h => h) (c_X10_layLayers l D cy ad N g hinj (by omega) w un la bo tp ft wr0 wa at0 sp tk vl fi nm dp wy st aP aF aH aO ps mn go vi hM P hP9 hw hPw LB hLB0) cv_X10_195 (by omega) hM ⟨_, _, rfl⟩ ⟨rfl, rfl⟩ rfl hl.1 rfl (Nat.le_of_ble_eq_true rfl) ⟨Nat.zero_le _, Nat.zero_le _⟩ dX10_blade_79 (fun g_1 H locs q_1 hP hS => ?_)
        obtain ⟨LB2_1, hLB2_1, h114_1, h120_1, f_1⟩ := q_1
        have h115_1 : g_1 115 = .inl (cy 1, 8, .inl (fun x9 => nI (P x9))) := (f_1 115 (by omega) (by omega)).trans hP9
        have hfr_1 : ∀ j : Nat, j ≠ 114 → j ≠ 120 → g_1 j = g j := fun j n0 n1 => (f_1 j n0 n1).trans (hfr j )
        refine lv_iload_n hx hb dX10_blade_82 rfl (lv_at hl 2 rfl) ?_
        refine lv_if_ne (tgt := 97) hx hb dX10_blade_83 (by decide) (fun c_83 => ?_) (fun c_83 => ?_)
        · skip
          have c_83 := (not_congr (z_eq (by omega))).mp c_83
          refine lv_iload_n hx hb dX10_blade_97 rfl (lv_at hl 2 rfl) ?_
          refine lv_iconst (v := nI (1)) hx hb dX10_blade_98 (by decide) ?_
          refine lv_icmp_ne (tgt := 110) hx hb dX10_blade_99 (by decide) (fun c_99 => ?_) (fun c_99 => ?_)
          · skip
            have c_99 := (not_congr (nI_eq (by omega) (by omega))).mp c_99
            refine lv_iload_n hx hb dX10_blade_110 rfl (lv_at hl 2 rfl) ?_
            refine lv_iconst (v := nI (2)) hx hb dX10_blade_111 (by decide) ?_
            refine lv_icmp_ne (tgt := 123) hx hb dX10_blade_112 (by decide) (fun c_112 => ?_) (fun c_112 => ?_)
            · skip
              have c_112 := (not_congr (nI_eq (by omega) (by omega))).mp c_112
              refine lv_aload_n hx hb dX10_blade_123 rfl (lv_at hl 0 rfl) ?_
              refine mg S hK hP (by omega) h114_1 fd_X10_36 rfl dX10_blade_124 ?_
              refine lv_iload_n hx hb dX10_blade_127 rfl (lv_at hl 1 rfl) ?_
              refine mial S hK hP (by omega) h120_1 (vp_in_nI (by omega) (by omega)) dX10_blade_128 ?_
              refine tpi (congrArg LB2_1 (nI_clamp (by omega))) ?_
              exact rMi S hr hlk hP hS ⟨_, _, _, (by obtain rfl : wj = 4 := (by omega); rw [hLB2_1 i0 hi0b]; exact (by rw [if_pos hJ, nI_clamp hi031]; unfold blN; rw [if_neg (show ¬ nI 4 = nI 0 by decide), if_neg (show ¬ nI 4 = nI 1 by decide), if_neg (show ¬ nI 4 = nI 2 by decide), if_neg (show ¬ nI 4 = nI 3 by decide), if_pos rfl])), h114_1, h120_1, hfr_1⟩ dX10_blade_129
            · skip
              have c_112 := (nI_eq (by omega) (by omega)).mp c_112
              refine lv_aload_n hx hb dX10_blade_115 rfl (lv_at hl 0 rfl) ?_
              refine lv_iload_n hx hb dX10_blade_116 rfl (lv_at hl 1 rfl) ?_
              refine kVi (As := [.int (nI (i0))]) (rest := []) S hK hP (c_X10_belowOf l D cy ad N g_1 (by omega) (wn w) (wf w) (wh w) (wo w) un (nI (fs (fun L => decide (fre (wn w) (wo w) (lef (wn w) (wo w) (wh w) L) = 0)) (wn w))) (nI (lef (wn w) (wo w) (wh w) (wn w))) tp ft wr0 wa at0 sp tk vl fi nm dp wy st aP aF aH aO ps mn go vi h114_1 hn4 hn8 i0 (by omega)) cv_X10_201 (by omega) h114_1 ⟨_, _, rfl⟩ ⟨rfl, rfl⟩ rfl hl.1 rfl (Nat.le_of_ble_eq_true rfl) ⟨Nat.zero_le _, Nat.zero_le _⟩ dX10_blade_117 (fun r_117 q_117 => ?_)
              subst q_117
              refine lv_goto (tgt := 129) hx hb dX10_blade_120 (by decide) ?_
              exact rMi S hr hlk hP hS ⟨_, _, _, (by subst c_112; exact (by rw [if_pos hJ, nI_clamp hi031]; unfold blN; rw [if_neg (show ¬ nI 2 = nI 0 by decide), if_neg (show ¬ nI 2 = nI 1 by decide), if_pos rfl]; rw [bel_cn hn8])), h114_1, h120_1, hfr_1⟩ dX10_blade_129
          · skip
            have c_99 := (nI_eq (by omega) (by omega)).mp c_99
            refine lv_aload_n hx hb dX10_blade_102 rfl (lv_at hl 0 rfl) ?_
            refine lv_iload_n hx hb dX10_blade_103 rfl (lv_at hl 1 rfl) ?_
            refine kVi (As := [.int (nI (i0))]) (rest := []) S hK hP (c_X10_aboveOf l D cy ad N g_1 (by omega) (wn w) (wf w) (wh w) (wo w) un (nI (fs (fun L => decide (fre (wn w) (wo w) (lef (wn w) (wo w) (wh w) L) = 0)) (wn w))) (nI (lef (wn w) (wo w) (wh w) (wn w))) tp ft wr0 wa at0 sp tk vl fi nm dp wy st aP aF aH aO ps mn go vi h114_1 hn4 hn8 i0 (by omega)) cv_X10_198 (by omega) h114_1 ⟨_, _, rfl⟩ ⟨rfl, rfl⟩ rfl hl.1 rfl (Nat.le_of_ble_eq_true rfl) ⟨Nat.zero_le _, Nat.zero_le _⟩ dX10_blade_104 (fun r_104 q_104 => ?_)
            subst q_104
            refine lv_goto (tgt := 129) hx hb dX10_blade_107 (by decide) ?_
            exact rMi S hr hlk hP hS ⟨_, _, _, (by subst c_99; exact (by rw [if_pos hJ, nI_clamp hi031]; unfold blN; rw [if_neg (show ¬ nI 1 = nI 0 by decide), if_pos rfl]; rw [abo_cn hn8 hw.2.2.2.2])), h114_1, h120_1, hfr_1⟩ dX10_blade_129
        · skip
          have c_83 := (z_eq (by omega)).mp c_83
          refine lv_aload_n hx hb dX10_blade_86 rfl (lv_at hl 0 rfl) ?_
          refine mg S hK hP (by omega) h114_1 fd_X10_20 rfl dX10_blade_87 ?_
          refine lv_iload_n hx hb dX10_blade_90 rfl (lv_at hl 1 rfl) ?_
          refine lv_ishr hx hb dX10_blade_91 ?_
          refine tpi (shrN (by omega) (by omega)) ?_
          refine lv_iconst (v := nI (1)) hx hb dX10_blade_92 (by decide) ?_
          refine lv_iand hx hb dX10_blade_93 ?_
          refine tpi (nx_and ((wh w) / 2 ^ i0) 1) ?_
          refine lv_goto (tgt := 129) hx hb dX10_blade_94 (by decide) ?_
          exact rMi S hr hlk hP hS ⟨_, _, _, (by subst c_83; exact (by rw [if_pos hJ, nI_clamp hi031]; unfold blN; rw [if_pos rfl])), h114_1, h120_1, hfr_1⟩ dX10_blade_129
      · skip
        have c_32 := (nI_eq (by omega) (by omega)).mp c_32
        subst c_32
        refine lv_iconst (v := nI (0)) hx hb dX10_blade_35 (by decide) ?_
        refine lv_istore_n (lv' := [(3, .int (nI (0))), (0, .ref (ad 114)), (1, .int (nI (i0))), (2, .int (nI (3)))]) hx hb dX10_blade_36 rfl hl (by decide) rfl (fun ls hl => ?_)
        refine lv_iconst (v := nI (0)) hx hb dX10_blade_37 (by decide) ?_
        refine lv_istore (lv' := [(4, .int (nI (0))), (3, .int (nI (0))), (0, .ref (ad 114)), (1, .int (nI (i0))), (2, .int (nI (3)))]) hx hb dX10_blade_38 hl (by decide) rfl (fun ls hl => ?_)
        have L40 : ∀ (fu : Nat) (j v : Nat), (j ≤ wn w) → (v = mk (fun j => (wo w).testBit (8 * i0 + j) || (wo w).testBit (8 * j + i0)) j) → (wn w - j) < fu → ∀ (ls : Array Slot), lv_has ls 5 [(4, .int (nI (j))), (3, .int (nI (v))), (0, .ref (ad 114)), (1, .int (nI (i0))), (2, .int (nI (3)))] → W p l e (rmF 2 48) s m [.ref (ad 114), .int (nI i0), .int (nI 3)].toArray below meth c s.heap [] 0 0 (MQ below (QI (fun r g1 => ∃ (LB2 : Nat → Int32), ∃ (la2 : Int32), ∃ (bo2 : Int32), (r = if isI (nI i0) (wn w) then blN w (nI i0).toNatClampNeg (nI 3) else -1) ∧ g1 114 = mob ad (nI (wn w)) (nI (wf w)) (nI (wh w)) (lN (wo w)) (nI (un)) la2 bo2 (nI (tp)) ft (nI (wr0)) (nI (wa)) (nI (at0)) (nI (sp)) (nI (tk)) vl (nI (fi)) (nI (nm)) (nI (dp)) wy st (nI (aP)) (nI (aF)) (nI (aH)) (lN aO) (nI (ps)) (nI (mn)) go (nI (vi)) ∧ g1 120 = .inl (cy 1, 8, .inl LB2) ∧ (∀ j, j ≠ 114 → j ≠ 120 → g1 j = g j)) D ad N) [.ref (ad 114), .int (nI i0), .int (nI 3)].toArray s 0 0 (AA ad N)) (F0 m 40 ls []) := by
          intro fu
          induction fu with
          | zero => intro j v hj hv hms ls hl; exact absurd hms (Nat.not_lt_zero _)
          | succ fu ih40 =>
            intro j v hj hv hms ls hl
            refine lv_iload hx hb dX10_blade_40 (lv_at hl 0 rfl) ?_
            refine lv_aload_n hx hb dX10_blade_42 rfl (lv_at hl 2 rfl) ?_
            refine mg S hK hP (by omega) hM fd_X10_7 rfl dX10_blade_43 ?_
            refine lv_icmp_ge (tgt := 76) hx hb dX10_blade_46 (by decide) (fun c_46 => ?_) (fun c_46 => ?_)
            · skip
              have c_46 := (nI_leI (by omega) (by omega)).mp c_46
              refine lv_iload_n hx hb dX10_blade_76 rfl (lv_at hl 1 rfl) ?_
              exact rMi S hr hlk hP hS ⟨LB, la, bo, (by rw [if_pos hJ, nI_clamp hi031]; unfold blN; rw [if_neg (show ¬ nI 3 = nI 0 by decide), if_neg (show ¬ nI 3 = nI 1 by decide), if_neg (show ¬ nI 3 = nI 2 by decide), if_pos rfl]; rw [hv, show j = wn w by omega, xs_e hn8 hi0b hw.2.2.2.2]), hM, hLB0, (fun j n0 n1 => hfr j )⟩ dX10_blade_77
            · skip
              have c_46 := (not_congr (nI_leI (by omega) (by omega))).mp c_46
              refine lv_iload_n hx hb dX10_blade_49 rfl (lv_at hl 1 rfl) ?_
              refine lv_aload_n hx hb dX10_blade_50 rfl (lv_at hl 2 rfl) ?_
              refine lv_iload_n hx hb dX10_blade_51 rfl (lv_at hl 3 rfl) ?_
              refine lv_iload hx hb dX10_blade_52 (lv_at hl 0 rfl) ?_
              refine kVi (As := [.int (nI (i0)), .int (nI (j))]) (rest := [.int (nI (v))]) S hK hP (c_X10_doCross l D cy ad N g (by omega) (wn w) (wf w) (wh w) (wo w) un la bo tp ft wr0 wa at0 sp tk vl fi nm dp wy st aP aF aH aO ps mn go vi hM i0 (by omega) j (by omega)) cv_X10_146 (by omega) hM ⟨_, _, rfl⟩ ⟨rfl, rfl⟩ rfl hl.1 rfl (Nat.le_of_ble_eq_true rfl) ⟨Nat.zero_le _, Nat.zero_le _⟩ dX10_blade_54 (fun r_54 q_54 => ?_)
              subst q_54
              have J68 : ∀ (z9 : Nat), (v ||| z9 = mk (fun j => (wo w).testBit (8 * i0 + j) || (wo w).testBit (8 * j + i0)) (j + 1)) → ∀ (ls : Array Slot), lv_has ls 5 [(4, .int (nI (j))), (3, .int (nI (v))), (0, .ref (ad 114)), (1, .int (nI (i0))), (2, .int (nI (3)))] → W p l e (rmF 2 48) s m [.ref (ad 114), .int (nI i0), .int (nI 3)].toArray below meth c s.heap [] 0 0 (MQ below (QI (fun r g1 => ∃ (LB2 : Nat → Int32), ∃ (la2 : Int32), ∃ (bo2 : Int32), (r = if isI (nI i0) (wn w) then blN w (nI i0).toNatClampNeg (nI 3) else -1) ∧ g1 114 = mob ad (nI (wn w)) (nI (wf w)) (nI (wh w)) (lN (wo w)) (nI (un)) la2 bo2 (nI (tp)) ft (nI (wr0)) (nI (wa)) (nI (at0)) (nI (sp)) (nI (tk)) vl (nI (fi)) (nI (nm)) (nI (dp)) wy st (nI (aP)) (nI (aF)) (nI (aH)) (lN aO) (nI (ps)) (nI (mn)) go (nI (vi)) ∧ g1 120 = .inl (cy 1, 8, .inl LB2) ∧ (∀ j, j ≠ 114 → j ≠ 120 → g1 j = g j)) D ad N) [.ref (ad 114), .int (nI i0), .int (nI 3)].toArray s 0 0 (AA ad N)) (F0 m 68 ls [.int (nI (z9)), .int (nI (v))]) := by
                intro z9 hz9 ls hl
                refine lv_ior hx hb dX10_blade_68 ?_
                refine tpi (nI_or v z9) ?_
                refine lv_istore_n (lv' := [(3, .int (nI (v ||| z9))), (4, .int (nI (j))), (0, .ref (ad 114)), (1, .int (nI (i0))), (2, .int (nI (3)))]) hx hb dX10_blade_69 rfl hl (by decide) rfl (fun ls hl => ?_)
                refine lv_iinc (v := nI (j + 1)) (lv' := [(4, .int (nI (j + 1))), (3, .int (nI (v ||| z9))), (0, .ref (ad 114)), (1, .int (nI (i0))), (2, .int (nI (3)))]) hx hb dX10_blade_70 hl (k := 1) rfl (by exact nI_add j 1) (by decide) rfl (fun ls hl => ?_)
                refine lv_goto (tgt := 40) hx hb dX10_blade_73 (by decide) ?_
                exact ih40 (j + 1) (v ||| z9) (by omega) hz9 (by omega) _ (lv_sub hl [0, 1, 2, 3, 4] rfl)
              refine lv_if_eq (tgt := 67) hx hb dX10_blade_57 (by decide) (fun c_57 => ?_) (fun c_57 => ?_)
              · skip
                have c_57 := bz_eq.mp c_57
                refine lv_iconst (v := nI (0)) hx hb dX10_blade_67 (by decide) ?_
                exact J68 0 (by rw [hv, Nat.or_zero]; exact (mk_f (P := (fun j => (wo w).testBit (8 * i0 + j) || (wo w).testBit (8 * j + i0))) (by have q1 := bF (fun q => c_57 (Or.inl q)); have q2 := bF (fun q => c_57 (Or.inr q)); simp [q1, q2])).symm) _ (lv_sub hl [0, 1, 2, 3, 4] rfl)
              · skip
                have c_57 := bz_ne.mp c_57
                refine lv_iconst (v := nI (1)) hx hb dX10_blade_60 (by decide) ?_
                refine lv_iload hx hb dX10_blade_61 (lv_at hl 0 rfl) ?_
                refine lv_ishl hx hb dX10_blade_63 ?_
                refine tpi (shlN 1 (by omega)) ?_
                refine tpi (by rw [Nat.one_mul]) ?_
                refine lv_goto (tgt := 68) hx hb dX10_blade_64 (by decide) ?_
                exact J68 (2 ^ j) (by rw [hv]; exact (mk_t (P := (fun j => (wo w).testBit (8 * i0 + j) || (wo w).testBit (8 * j + i0))) (by rcases c_57 with q | q; (simp [q]); (simp [q]))).symm) _ (lv_sub hl [0, 1, 2, 3, 4] rfl)
        exact L40 ((wn w - 0) + 1) 0 0 (by omega) rfl (Nat.lt_succ_self _) _ (lv_sub hl [0, 1, 2, 3, 4] rfl)
    · skip
      have c_25 := bz_eq.mp c_25
      refine lv_iconst (v := (-1)) hx hb dX10_blade_28 (by decide) ?_
      exact rMi S hr hlk hP hS ⟨LB, la, bo, (by rw [if_pos hJ, nI_clamp hi031]; exact (bl_out c_25).symm), hM, hLB0, (fun j n0 n1 => hfr j )⟩ dX10_blade_29
set_option maxHeartbeats 4000000 in
set_option maxRecDepth 100000 in
theorem c_X10_about (l : Launch) (D : va_G) (cy : Nat → ClassId) (ad : Nat → Nat) (N : Nat) (g : Nat → va_E) (hinj : ∀ i j : Nat, i < N → j < N → ad i = ad j → i = j) (hN : 145 ≤ N) (w : WT) (un : Nat) (la : Int32) (bo : Int32) (tp : Nat) (ft : Int32) (wr0 : Nat) (wa : Nat) (at0 : Nat) (sp : Nat) (tk : Nat) (vl : Int32) (fi : Nat) (nm : Nat) (dp : Nat) (wy : Int32) (st : Int32) (aP : Nat) (aF : Nat) (aH : Nat) (aO : Nat) (ps : Nat) (mn : Nat) (go : Int32) (vi : Nat) (hM : g 114 = mob ad (nI (wn w)) (nI (wf w)) (nI (wh w)) (lN (wo w)) (nI (un)) la bo (nI (tp)) ft (nI (wr0)) (nI (wa)) (nI (at0)) (nI (sp)) (nI (tk)) vl (nI (fi)) (nI (nm)) (nI (dp)) wy st (nI (aP)) (nI (aF)) (nI (aH)) (lN aO) (nI (ps)) (nI (mn)) go (nI (vi))) (P : Nat → Nat) (hP9 : g 115 = .inl (cy 1, 8, .inl (fun x9 => nI (P x9)))) (hw : WOK w) (hPw : ∀ i, i < wn w → P i = wp w i) (LB : Nat → Int32) (hLB0 : g 120 = .inl (cy 1, 8, .inl LB)) (what : Int32) : Met l yX10_about (WS yX10_about cX10_about 2 (some .int)) (rmF 3 67) (PP [.ref (ad 114), .int what] D cy ad N g) (QI (fun r g1 => ∃ (LB2 : Nat → Int32), ∃ (la2 : Int32), ∃ (bo2 : Int32), (r = abA w un what) ∧ g1 114 = mob ad (nI (wn w)) (nI (wf w)) (nI (wh w)) (lN (wo w)) (nI (un)) la2 bo2 (nI (tp)) ft (nI (wr0)) (nI (wa)) (nI (at0)) (nI (sp)) (nI (tk)) vl (nI (fi)) (nI (nm)) (nI (dp)) wy st (nI (aP)) (nI (aF)) (nI (aH)) (lN aO) (nI (ps)) (nI (mn)) go (nI (vi)) ∧ g1 120 = .inl (cy 1, 8, .inl LB2) ∧ (∀ j, j ≠ 114 → j ≠ 120 → g1 j = g j)) D ad N) 0 0 (AA ad N) := by
  refine mentry (by decide) (Nat.le_of_ble_eq_true rfl) (fun p e s m below meth c ls S hr hlk hnm hP hK hl => ?_)
  have S : CallFix p m c cX10_about 2 s _ wsL_law RX10 := S
  have hx := S.1
  have hb := S.2.1
  have hl : lv_has ls 2 [(0, .ref (ad 114)), (1, .int what)] := hl
  have hI : MD (AA ad N) ad N := MD.in hinj
  have hS : va_S (AA ad N) s.heap s.heap [] := va_S.rf
  have hfr : ∀ j : Nat, g j = g j := fun _ => rfl
  have hn4 := hw.1.1
  have hn8 := hw.1.2
  have hpm := perm_P hw hPw
  have hf := lt256 hw.2.2.1 hn8
  have hh := lt256 hw.2.2.2.1 hn8
  have ho := hw.2.2.2.2.1
  have hlf := Nat.lt_of_lt_of_le (lef_lt (o := wo w) (n := wn w) hw.2.2.2.1 (wn w)) (Nat.pow_le_pow_right (n := 2) (by decide) hn8)
  refine lv_iload_n hx hb dX10_about_0 rfl (lv_at hl 1 rfl) ?_
  refine lv_i2l hx hb dX10_about_1 rfl ?_
  refine lv_lconst (v := lN 0) hx hb dX10_about_2 (by decide) ?_
  refine lv_ldc2 hx hb S.2.2.2.1 (S.2.2.2.2 _ m_X10_206) dX10_about_3 ?_
  refine tpl (show (9 : Int64) = lN 9 from rfl) ?_
  refine kSi (As := [.long what.toInt64, .long (lN 0), .long (lN 9)]) (rest := []) S hK hP (c_X10_in l D cy ad N g what.toInt64 (lN 0) (lN 9)) cs_X10_115 ⟨rfl, rfl⟩ rfl hl.1 rfl (Nat.le_of_ble_eq_true rfl) ⟨Nat.zero_le _, Nat.zero_le _⟩ dX10_about_6 (fun r_6 q_6 => ?_)
  subst q_6
  refine tpi (ifC (in_45 (by omega) (by omega))) ?_
  refine lv_if_ne (tgt := 14) hx hb dX10_about_9 (by decide) (fun c_9 => ?_) (fun c_9 => ?_)
  · skip
    have c_9 := bz_ne.mp c_9
    obtain ⟨wj, hwjb, rfl⟩ := nI_of (x := what) c_9.1
    have hwj : wj ≤ 9 := by have := (not_congr (nI_ltI (by omega) hwjb)).mp c_9.2; omega
    refine lv_aload_n hx hb dX10_about_14 rfl (lv_at hl 0 rfl) ?_
    refine kMv (As := []) (rest := []) S hK hP hS (fun _ h => h) (c_X10_layLayers l D cy ad N g hinj (by omega) w un la bo tp ft wr0 wa at0 sp tk vl fi nm dp wy st aP aF aH aO ps mn go vi hM P hP9 hw hPw LB hLB0) cv_X10_195 (by omega) hM ⟨_, _, rfl⟩ ⟨rfl, rfl⟩ rfl hl.1 rfl (Nat.le_of_ble_eq_true rfl) ⟨Nat.zero_le _, Nat.zero_le _⟩ dX10_about_15 (fun g_1 H locs q_1 hP hS => ?_)
    obtain ⟨LB2_1, hLB2_1, h114_1, h120_1, f_1⟩ := q_1
    have h115_1 : g_1 115 = .inl (cy 1, 8, .inl (fun x9 => nI (P x9))) := (f_1 115 (by omega) (by omega)).trans hP9
    have hfr_1 : ∀ j : Nat, j ≠ 114 → j ≠ 120 → g_1 j = g j := fun j n0 n1 => (f_1 j n0 n1).trans (hfr j )
    refine lv_iload_n hx hb dX10_about_18 rfl (lv_at hl 1 rfl) ?_
    rcases (show wj = 0 ∨ wj = 1 ∨ wj = 2 ∨ wj = 3 ∨ wj = 4 ∨ wj = 5 ∨ wj = 6 ∨ wj = 7 ∨ wj = 8 ∨ wj = 9 by omega) with rfl | rfl | rfl | rfl | rfl | rfl | rfl | rfl | rfl | rfl
    · skip
      refine lv_tableIn (tgt := 68) hx hb dX10_about_19 (by decide) (by decide) rfl (by decide) ?_
      refine lv_aload_n hx hb dX10_about_68 rfl (lv_at hl 0 rfl) ?_
      refine mg S hK hP (by omega) h114_1 fd_X10_7 rfl dX10_about_69 ?_
      exact rMi S hr hlk hP hS ⟨_, _, _, (by unfold abA; rw [if_pos rfl]), h114_1, h120_1, hfr_1⟩ dX10_about_72
    · skip
      refine lv_tableIn (tgt := 73) hx hb dX10_about_19 (by decide) (by decide) rfl (by decide) ?_
      refine lv_aload_n hx hb dX10_about_73 rfl (lv_at hl 0 rfl) ?_
      refine mg S hK hP (by omega) h114_1 fd_X10_119 rfl dX10_about_74 ?_
      refine kSi (As := [.long (lN (wo w))]) (rest := []) S hK hP (c_X10_sizeOf l D cy ad N g_1 (wo w)) cs_X10_208 ⟨rfl, rfl⟩ rfl hl.1 rfl (Nat.le_of_ble_eq_true rfl) ⟨Nat.zero_le _, Nat.zero_le _⟩ dX10_about_77 (fun r_77 q_77 => ?_)
      subst q_77
      exact rMi S hr hlk hP hS ⟨_, _, _, (by unfold abA; rw [if_neg (show ¬ nI 1 = nI 0 by decide), if_pos rfl]; rw [bcL_cn]), h114_1, h120_1, hfr_1⟩ dX10_about_80
    · skip
      refine lv_tableIn (tgt := 81) hx hb dX10_about_19 (by decide) (by decide) rfl (by decide) ?_
      refine lv_aload_n hx hb dX10_about_81 rfl (lv_at hl 0 rfl) ?_
      refine kVi (As := []) (rest := []) S hK hP (c_X10_isLock l D cy ad N g_1 (by omega) w un (nI (fs (fun L => decide (fre (wn w) (wo w) (lef (wn w) (wo w) (wh w) L) = 0)) (wn w))) (nI (lef (wn w) (wo w) (wh w) (wn w))) tp ft wr0 wa at0 sp tk vl fi nm dp wy st aP aF aH aO ps mn go vi h114_1 P h115_1 hw hPw) cv_X10_212 (by omega) h114_1 ⟨_, _, rfl⟩ ⟨rfl, rfl⟩ rfl hl.1 rfl (Nat.le_of_ble_eq_true rfl) ⟨Nat.zero_le _, Nat.zero_le _⟩ dX10_about_82 (fun r_82 q_82 => ?_)
      subst q_82
      refine lv_if_eq (tgt := 92) hx hb dX10_about_85 (by decide) (fun c_85 => ?_) (fun c_85 => ?_)
      · skip
        have c_85 := bz_eq.mp c_85
        refine lv_iconst (v := nI (0)) hx hb dX10_about_92 (by decide) ?_
        exact rMi S hr hlk hP hS ⟨_, _, _, (by unfold abA; rw [if_neg (show ¬ nI 2 = nI 0 by decide), if_neg (show ¬ nI 2 = nI 1 by decide), if_pos rfl]; unfold lkA; rw [if_neg c_85]), h114_1, h120_1, hfr_1⟩ dX10_about_93
      · skip
        have c_85 := bz_ne.mp c_85
        refine lv_iconst (v := nI (1)) hx hb dX10_about_88 (by decide) ?_
        refine lv_goto (tgt := 93) hx hb dX10_about_89 (by decide) ?_
        exact rMi S hr hlk hP hS ⟨_, _, _, (by unfold abA; rw [if_neg (show ¬ nI 2 = nI 0 by decide), if_neg (show ¬ nI 2 = nI 1 by decide), if_pos rfl]; unfold lkA; rw [if_pos c_85]), h114_1, h120_1, hfr_1⟩ dX10_about_93
    · skip
      refine lv_tableIn (tgt := 94) hx hb dX10_about_19 (by decide) (by decide) rfl (by decide) ?_
      refine lv_aload_n hx hb dX10_about_94 rfl (lv_at hl 0 rfl) ?_
      refine mg S hK hP (by omega) h114_1 fd_X10_189 rfl dX10_about_95 ?_
      exact rMi S hr hlk hP hS ⟨_, _, _, (by unfold abA; rw [if_neg (show ¬ nI 3 = nI 0 by decide), if_neg (show ¬ nI 3 = nI 1 by decide), if_neg (show ¬ nI 3 = nI 2 by decide), if_pos rfl]), h114_1, h120_1, hfr_1⟩ dX10_about_98
    · skip
      refine lv_tableIn (tgt := 99) hx hb dX10_about_19 (by decide) (by decide) rfl (by decide) ?_
      refine lv_aload_n hx hb dX10_about_99 rfl (lv_at hl 0 rfl) ?_
      refine mg S hK hP (by omega) h114_1 fd_X10_192 rfl dX10_about_100 ?_
      refine lv_i2l hx hb dX10_about_103 rfl ?_
      refine tpl (nI_l (by omega)) ?_
      refine kSi (As := [.long (lN (lef (wn w) (wo w) (wh w) (wn w)))]) (rest := []) S hK hP (c_X10_sizeOf l D cy ad N g_1 (lef (wn w) (wo w) (wh w) (wn w))) cs_X10_208 ⟨rfl, rfl⟩ rfl hl.1 rfl (Nat.le_of_ble_eq_true rfl) ⟨Nat.zero_le _, Nat.zero_le _⟩ dX10_about_104 (fun r_104 q_104 => ?_)
      subst q_104
      exact rMi S hr hlk hP hS ⟨_, _, _, (by unfold abA; rw [if_neg (show ¬ nI 4 = nI 0 by decide), if_neg (show ¬ nI 4 = nI 1 by decide), if_neg (show ¬ nI 4 = nI 2 by decide), if_neg (show ¬ nI 4 = nI 3 by decide), if_pos rfl]; rw [bcN_64 hlf]), h114_1, h120_1, hfr_1⟩ dX10_about_107
    · skip
      refine lv_tableIn (tgt := 108) hx hb dX10_about_19 (by decide) (by decide) rfl (by decide) ?_
      refine lv_aload_n hx hb dX10_about_108 rfl (lv_at hl 0 rfl) ?_
      refine kVi (As := []) (rest := []) S hK hP (c_X10_star l D cy ad N g_1 (by omega) w un (nI (fs (fun L => decide (fre (wn w) (wo w) (lef (wn w) (wo w) (wh w) L) = 0)) (wn w))) (nI (lef (wn w) (wo w) (wh w) (wn w))) tp ft wr0 wa at0 sp tk vl fi nm dp wy st aP aF aH aO ps mn go vi h114_1 P h115_1 hw hPw) cv_X10_216 (by omega) h114_1 ⟨_, _, rfl⟩ ⟨rfl, rfl⟩ rfl hl.1 rfl (Nat.le_of_ble_eq_true rfl) ⟨Nat.zero_le _, Nat.zero_le _⟩ dX10_about_109 (fun r_109 q_109 => ?_)
      subst q_109
      exact rMi S hr hlk hP hS ⟨_, _, _, (by unfold abA; rw [if_neg (show ¬ nI 5 = nI 0 by decide), if_neg (show ¬ nI 5 = nI 1 by decide), if_neg (show ¬ nI 5 = nI 2 by decide), if_neg (show ¬ nI 5 = nI 3 by decide), if_neg (show ¬ nI 5 = nI 4 by decide), if_pos rfl]), h114_1, h120_1, hfr_1⟩ dX10_about_112
    · skip
      refine lv_tableIn (tgt := 113) hx hb dX10_about_19 (by decide) (by decide) rfl (by decide) ?_
      refine lv_aload_n hx hb dX10_about_113 rfl (lv_at hl 0 rfl) ?_
      refine kVi (As := []) (rest := []) S hK hP (c_X10_turns l D cy ad N g_1 (by omega) w un (nI (fs (fun L => decide (fre (wn w) (wo w) (lef (wn w) (wo w) (wh w) L) = 0)) (wn w))) (nI (lef (wn w) (wo w) (wh w) (wn w))) tp ft wr0 wa at0 sp tk vl fi nm dp wy st aP aF aH aO ps mn go vi h114_1 P h115_1 hw hPw) cv_X10_219 (by omega) h114_1 ⟨_, _, rfl⟩ ⟨rfl, rfl⟩ rfl hl.1 rfl (Nat.le_of_ble_eq_true rfl) ⟨Nat.zero_le _, Nat.zero_le _⟩ dX10_about_114 (fun r_114 q_114 => ?_)
      subst q_114
      exact rMi S hr hlk hP hS ⟨_, _, _, (by unfold abA; rw [if_neg (show ¬ nI 6 = nI 0 by decide), if_neg (show ¬ nI 6 = nI 1 by decide), if_neg (show ¬ nI 6 = nI 2 by decide), if_neg (show ¬ nI 6 = nI 3 by decide), if_neg (show ¬ nI 6 = nI 4 by decide), if_neg (show ¬ nI 6 = nI 5 by decide), if_pos rfl]), h114_1, h120_1, hfr_1⟩ dX10_about_117
    · skip
      refine lv_tableIn (tgt := 118) hx hb dX10_about_19 (by decide) (by decide) rfl (by decide) ?_
      refine lv_aload_n hx hb dX10_about_118 rfl (lv_at hl 0 rfl) ?_
      refine mg S hK hP (by omega) h114_1 fd_X10_17 rfl dX10_about_119 ?_
      refine lv_i2l hx hb dX10_about_122 rfl ?_
      refine tpl (nI_l (by omega)) ?_
      refine kSi (As := [.long (lN (wf w))]) (rest := []) S hK hP (c_X10_sizeOf l D cy ad N g_1 (wf w)) cs_X10_208 ⟨rfl, rfl⟩ rfl hl.1 rfl (Nat.le_of_ble_eq_true rfl) ⟨Nat.zero_le _, Nat.zero_le _⟩ dX10_about_123 (fun r_123 q_123 => ?_)
      subst q_123
      exact rMi S hr hlk hP hS ⟨_, _, _, (by unfold abA; rw [if_neg (show ¬ nI 7 = nI 0 by decide), if_neg (show ¬ nI 7 = nI 1 by decide), if_neg (show ¬ nI 7 = nI 2 by decide), if_neg (show ¬ nI 7 = nI 3 by decide), if_neg (show ¬ nI 7 = nI 4 by decide), if_neg (show ¬ nI 7 = nI 5 by decide), if_neg (show ¬ nI 7 = nI 6 by decide), if_pos rfl]; rw [bcN_64 hf]), h114_1, h120_1, hfr_1⟩ dX10_about_126
    · skip
      refine lv_tableIn (tgt := 127) hx hb dX10_about_19 (by decide) (by decide) rfl (by decide) ?_
      refine lv_aload_n hx hb dX10_about_127 rfl (lv_at hl 0 rfl) ?_
      refine mg S hK hP (by omega) h114_1 fd_X10_20 rfl dX10_about_128 ?_
      refine lv_i2l hx hb dX10_about_131 rfl ?_
      refine tpl (nI_l (by omega)) ?_
      refine kSi (As := [.long (lN (wh w))]) (rest := []) S hK hP (c_X10_sizeOf l D cy ad N g_1 (wh w)) cs_X10_208 ⟨rfl, rfl⟩ rfl hl.1 rfl (Nat.le_of_ble_eq_true rfl) ⟨Nat.zero_le _, Nat.zero_le _⟩ dX10_about_132 (fun r_132 q_132 => ?_)
      subst q_132
      exact rMi S hr hlk hP hS ⟨_, _, _, (by unfold abA; rw [if_neg (show ¬ nI 8 = nI 0 by decide), if_neg (show ¬ nI 8 = nI 1 by decide), if_neg (show ¬ nI 8 = nI 2 by decide), if_neg (show ¬ nI 8 = nI 3 by decide), if_neg (show ¬ nI 8 = nI 4 by decide), if_neg (show ¬ nI 8 = nI 5 by decide), if_neg (show ¬ nI 8 = nI 6 by decide), if_neg (show ¬ nI 8 = nI 7 by decide), if_pos rfl]; rw [bcN_64 hh]), h114_1, h120_1, hfr_1⟩ dX10_about_135
    · skip
      refine lv_tableOut (tgt := 136) hx hb dX10_about_19 (by decide) (by decide) ?_
      refine lv_aload_n hx hb dX10_about_136 rfl (lv_at hl 0 rfl) ?_
      refine mg S hK hP (by omega) h114_1 fd_X10_123 rfl dX10_about_137 ?_
      exact rMi S hr hlk hP hS ⟨_, _, _, (by unfold abA; rw [if_neg (show ¬ nI 9 = nI 0 by decide), if_neg (show ¬ nI 9 = nI 1 by decide), if_neg (show ¬ nI 9 = nI 2 by decide), if_neg (show ¬ nI 9 = nI 3 by decide), if_neg (show ¬ nI 9 = nI 4 by decide), if_neg (show ¬ nI 9 = nI 5 by decide), if_neg (show ¬ nI 9 = nI 6 by decide), if_neg (show ¬ nI 9 = nI 7 by decide), if_neg (show ¬ nI 9 = nI 8 by decide), if_pos rfl]), h114_1, h120_1, hfr_1⟩ dX10_about_140
  · skip
    have c_9 := bz_eq.mp c_9
    refine lv_iconst (v := (-1)) hx hb dX10_about_12 (by decide) ?_
    exact rMi S hr hlk hP hS ⟨LB, la, bo, (ab_out c_9).symm, hM, hLB0, (fun j n0 n1 => hfr j )⟩ dX10_about_13

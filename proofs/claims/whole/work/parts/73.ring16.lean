set_option maxHeartbeats 4000000 in
set_option maxRecDepth 100000 in
theorem c_X9_told (l : Launch) (D : va_G) (cy : Nat → ClassId) (ad : Nat → Nat) (N : Nat) (g : Nat → va_E) (hN : 114 ≤ N) (qc : Nat) (fc : Nat) (lf : Int32) (lt : Int32) (vc : Nat) (hX : g 0 = .inr (9, [.ref (ad 1), .ref (ad 17), .ref (ad 33), .ref (ad 34), .int (nI (qc)), .ref (ad 35), .ref (ad 45), .ref (ad 47), .ref (ad 52), .int (nI (fc)), .int lf, .int lt, .ref (ad 53), .int (nI (vc)), .ref (ad 54), .ref (ad 75)])) (ff : Nat → Option Nat) (hff : g 52 = .inl (cy 3, 8, .inr (.inr (.inr (.inr ff))))) (hfc : fc ≤ 8) (hfj : ∀ j, j < 8 → ff j = some (ad (82 + 2 * j))) (Fl : Nat → Nat) (hFo : (∀ j : Nat, j < 8 → g (82 + 2 * j) = .inr (0, [.ref (ad (82 + 2 * j + 1)), .int (nI (Fl j))]))) (hFl : ∀ j, Fl j ≤ 200) (FB : Nat → Nat → Nat) (hFb : (∀ j : Nat, j < 8 → g (82 + 2 * j + 1) = .inl (cy 0, 200, .inl (fun x9 => nI ((FB j) x9))))) (hFB : ∀ j i, FB j i < 64) (x0 : Int32) (what : Int32) : Met l yX9_told (WS yX9_told cX9_told 4 (some .int)) (rmF 3 64) (PP [.ref (ad 0), .int x0, .int what] D cy ad N g) (vp_Si (fun r => r = if isI x0 fc then tolA (FB x0.toNatClampNeg) (Fl x0.toNatClampNeg) what else -1)) 0 0 (fun _ => False) := by
  refine mentry (by decide) (Nat.le_of_ble_eq_true rfl) (fun p e s m below meth c ls S hr hlk hnm hP hK hl => ?_)
  have S : CallFix p m c cX9_told 4 s _ wsL_law RX9 := S
  have hx := S.1
  have hb := S.2.1
  have hl : lv_has ls 4 [(0, .ref (ad 0)), (1, .int x0), (2, .int what)] := hl
  refine lv_aload_n hx hb dX9_told_0 rfl (lv_at hl 0 rfl) ?_
  refine lv_iload_n hx hb dX9_told_1 rfl (lv_at hl 1 rfl) ?_
  refine kVi (As := [.int x0]) (rest := []) S hK hP (c_X9_isFigure l D cy ad N g (by omega) qc fc lf lt vc hX ff hff hfc x0) cv_X9_197 (by omega) hX ⟨_, _, rfl⟩ ⟨rfl, rfl⟩ rfl hl.1 rfl (Nat.le_of_ble_eq_true rfl) ⟨Nat.zero_le _, Nat.zero_le _⟩ dX9_told_2 (fun r_2 q_2 => ?_)
  subst q_2
  refine lv_if_ne (tgt := 10) hx hb dX9_told_5 (by decide) (fun c_5 => ?_) (fun c_5 => ?_)
  · skip
    have c_5 := bz_ne.mp c_5
    have hJ := c_5
    obtain ⟨i, hib, ei⟩ := isI_nat (by omega) c_5
    have hl : lv_has ls 4 [(0, .ref (ad 0)), (1, .int (nI (i))), (2, .int what)] := by rw [ei] at hl; exact hl
    have hib9 : i < 2 ^ 31 := by omega
    have eix : x0.toNatClampNeg = i := by rw [ei, nI_clamp hib9]
    have hFli := hFl i
    refine lv_aload_n hx hb dX9_told_10 rfl (lv_at hl 0 rfl) ?_
    refine mg S hK hP (by omega) hX fd_X9_53 rfl dX9_told_11 ?_
    refine lv_iload_n hx hb dX9_told_14 rfl (lv_at hl 1 rfl) ?_
    have hf9_1 : i < 8 := by omega
    have hfc_2 : g (82 + 2 * i + 1) = .inl (cy 0, 200, .inl (fun x9 => nI ((FB i) x9))) := hFb i hf9_1
    have hfc_3 : g (82 + 2 * i) = .inr (0, [.ref (ad (82 + 2 * i + 1)), .int (nI (Fl i))]) := hFo i hf9_1
    refine mial7 S hK hP (by omega) hff rfl (vp_in_nI (by omega) (by omega)) (a := ad (82 + 2 * i)) ((congrArg ff (nI_clamp (by omega))).trans (hfj _ hf9_1)) dX9_told_15 ?_
    refine lv_astore_n (lv' := [(3, .ref (ad (82 + 2 * i))), (0, .ref (ad 0)), (1, .int (nI (i))), (2, .int what)]) hx hb dX9_told_16 rfl hl (by decide) rfl (fun ls hl => ?_)
    refine lv_iload_n hx hb dX9_told_17 rfl (lv_at hl 3 rfl) ?_
    by_cases e18_0 : what = nI 0
    · subst e18_0
      refine lv_tableIn (tgt := 44) hx hb dX9_told_18 (by decide) (by decide) rfl (by decide) ?_
      refine lv_aload_n hx hb dX9_told_44 rfl (lv_at hl 0 rfl) ?_
      refine mg S hK hP (by omega) hfc_3 fd_X9_201 rfl dX9_told_45 ?_
      exact rSi S hr hlk (by rw [if_pos hJ, eix]; rfl) dX9_told_48
    by_cases e18_1 : what = nI 1
    · subst e18_1
      refine lv_tableIn (tgt := 49) hx hb dX9_told_18 (by decide) (by decide) rfl (by decide) ?_
      refine lv_aload_n hx hb dX9_told_49 rfl (lv_at hl 0 rfl) ?_
      refine kVi (As := []) (rest := []) S hK hP (c_X0_acts l D cy ad N g (82 + 2 * i) (by omega) (82 + 2 * i + 1) (by omega) (Fl i) (FB i) hfc_3 hfc_2 (by omega) hFli (hFB i)) cv_X9_202 (by omega) hfc_3 ⟨_, _, rfl⟩ ⟨rfl, rfl⟩ rfl hl.1 rfl (Nat.le_of_ble_eq_true rfl) ⟨Nat.zero_le _, Nat.zero_le _⟩ dX9_told_50 (fun r_50 q_50 => ?_)
      subst q_50
      exact rSi S hr hlk (by rw [if_pos hJ, eix]; rfl) dX9_told_53
    by_cases e18_2 : what = nI 2
    · subst e18_2
      refine lv_tableIn (tgt := 54) hx hb dX9_told_18 (by decide) (by decide) rfl (by decide) ?_
      refine lv_aload_n hx hb dX9_told_54 rfl (lv_at hl 0 rfl) ?_
      refine kVi (As := []) (rest := []) S hK hP (c_X0_greatest l D cy ad N g (82 + 2 * i) (by omega) (82 + 2 * i + 1) (by omega) (Fl i) (FB i) hfc_3 hfc_2 (by omega) hFli (hFB i)) cv_X9_205 (by omega) hfc_3 ⟨_, _, rfl⟩ ⟨rfl, rfl⟩ rfl hl.1 rfl (Nat.le_of_ble_eq_true rfl) ⟨Nat.zero_le _, Nat.zero_le _⟩ dX9_told_55 (fun r_55 q_55 => ?_)
      subst q_55
      exact rSi S hr hlk (by rw [if_pos hJ, eix]; rfl) dX9_told_58
    refine lv_tableOut (tgt := 59) hx hb dX9_told_18 (sw_out3 e18_0 e18_1 e18_2) (by decide) ?_
    refine lv_iload_n hx hb dX9_told_59 rfl (lv_at hl 3 rfl) ?_
    refine lv_bipush (v := nI (10)) hx hb dX9_told_60 (by decide) ?_
    refine lv_icmp_lt (tgt := 85) hx hb dX9_told_62 (by decide) (fun c_62 => ?_) (fun c_62 => ?_)
    · skip
      refine lv_iload_n hx hb dX9_told_85 rfl (lv_at hl 3 rfl) ?_
      refine lv_sipush (v := nI (300)) hx hb dX9_told_86 (by decide) ?_
      refine lv_icmp_lt (tgt := 114) hx hb dX9_told_89 (by decide) (fun c_89 => ?_) (fun c_89 => ?_)
      · skip
        refine lv_iconst (v := (-1)) hx hb dX9_told_114 (by decide) ?_
        exact rSi S hr hlk (by rw [if_pos hJ, eix]; exact (tol_lo e18_0 e18_1 e18_2 c_62).symm) dX9_told_115
      · skip
        exact absurd (Int32.lt_trans c_62 (by decide)) c_89
    · skip
      obtain ⟨wj, hwjb, rfl⟩ := nI_of (x := what) (fun q => c_62 (Int32.lt_trans q (by decide)))
      have h10 : 10 ≤ wj := Nat.not_lt.mp (fun q => c_62 ((nI_ltI hwjb (by decide)).mpr q))
      refine lv_iload_n hx hb dX9_told_65 rfl (lv_at hl 3 rfl) ?_
      refine lv_bipush (v := nI (10)) hx hb dX9_told_66 (by decide) ?_
      refine lv_aload_n hx hb dX9_told_68 rfl (lv_at hl 0 rfl) ?_
      refine mg S hK hP (by omega) hfc_3 fd_X9_201 rfl dX9_told_69 ?_
      refine lv_iadd hx hb dX9_told_72 ?_
      refine tpi (nI_add 10 (Fl i)) ?_
      refine lv_icmp_ge (tgt := 85) hx hb dX9_told_73 (by decide) (fun c_73 => ?_) (fun c_73 => ?_)
      · skip
        have c_73 := (nI_leI (by omega) (by omega)).mp c_73
        refine lv_iload_n hx hb dX9_told_85 rfl (lv_at hl 3 rfl) ?_
        refine lv_sipush (v := nI (300)) hx hb dX9_told_86 (by decide) ?_
        refine lv_icmp_lt (tgt := 114) hx hb dX9_told_89 (by decide) (fun c_89 => ?_) (fun c_89 => ?_)
        · skip
          have c_89 := (nI_ltI (by omega) (by omega)).mp c_89
          refine lv_iconst (v := (-1)) hx hb dX9_told_114 (by decide) ?_
          exact rSi S hr hlk (by rw [if_pos hJ, eix]; exact (tol_m hFli hwjb h10 (by omega) (by omega)).symm) dX9_told_115
        · skip
          have c_89 := (not_congr (nI_ltI (by omega) (by omega))).mp c_89
          refine lv_iload_n hx hb dX9_told_92 rfl (lv_at hl 3 rfl) ?_
          refine lv_sipush (v := nI (300)) hx hb dX9_told_93 (by decide) ?_
          refine lv_aload_n hx hb dX9_told_96 rfl (lv_at hl 0 rfl) ?_
          refine mg S hK hP (by omega) hfc_3 fd_X9_201 rfl dX9_told_97 ?_
          refine lv_iadd hx hb dX9_told_100 ?_
          refine tpi (nI_add 300 (Fl i)) ?_
          refine lv_icmp_ge (tgt := 114) hx hb dX9_told_101 (by decide) (fun c_101 => ?_) (fun c_101 => ?_)
          · skip
            have c_101 := (nI_leI (by omega) (by omega)).mp c_101
            refine lv_iconst (v := (-1)) hx hb dX9_told_114 (by decide) ?_
            exact rSi S hr hlk (by rw [if_pos hJ, eix]; exact (tol_m hFli hwjb h10 (by omega) (by omega)).symm) dX9_told_115
          · skip
            have c_101 := (not_congr (nI_leI (by omega) (by omega))).mp c_101
            obtain ⟨jf, rfl⟩ : ∃ jf, wj = jf + 300 := ⟨wj - 300, by omega⟩
            refine lv_aload_n hx hb dX9_told_104 rfl (lv_at hl 0 rfl) ?_
            refine lv_iload_n hx hb dX9_told_105 rfl (lv_at hl 3 rfl) ?_
            refine lv_sipush (v := nI (300)) hx hb dX9_told_106 (by decide) ?_
            refine lv_isub hx hb dX9_told_109 ?_
            refine tpi (pk_sub (a := ((jf + 300))) (b := 300) (by omega)) ?_
            refine tpi (by rw [Nat.add_sub_cancel]) ?_
            refine kVi (As := [.int (nI (jf))]) (rest := []) S hK hP (c_X0_numberOf l D cy ad N g (82 + 2 * i) (by omega) (82 + 2 * i + 1) (by omega) (Fl i) (FB i) hfc_3 hfc_2 (by omega) hFli (hFB i) jf (by omega)) cv_X9_211 (by omega) hfc_3 ⟨_, _, rfl⟩ ⟨rfl, rfl⟩ rfl hl.1 rfl (Nat.le_of_ble_eq_true rfl) ⟨Nat.zero_le _, Nat.zero_le _⟩ dX9_told_110 (fun r_110 q_110 => ?_)
            subst q_110
            exact rSi S hr hlk (by rw [if_pos hJ, eix]; exact (tol_n hFli (by omega)).symm) dX9_told_113
      · skip
        have c_73 := (not_congr (nI_leI (by omega) (by omega))).mp c_73
        obtain ⟨jf, rfl⟩ : ∃ jf, wj = jf + 10 := ⟨wj - 10, by omega⟩
        refine lv_aload_n hx hb dX9_told_76 rfl (lv_at hl 0 rfl) ?_
        refine lv_iload_n hx hb dX9_told_77 rfl (lv_at hl 3 rfl) ?_
        refine lv_bipush (v := nI (10)) hx hb dX9_told_78 (by decide) ?_
        refine lv_isub hx hb dX9_told_80 ?_
        refine tpi (pk_sub (a := ((jf + 10))) (b := 10) (by omega)) ?_
        refine tpi (by rw [Nat.add_sub_cancel]) ?_
        refine kVi (As := [.int (nI (jf))]) (rest := []) S hK hP (c_X0_sortOf l D cy ad N g (82 + 2 * i) (by omega) (82 + 2 * i + 1) (by omega) (Fl i) (FB i) hfc_3 hfc_2 (by omega) hFli (hFB i) jf (by omega)) cv_X9_208 (by omega) hfc_3 ⟨_, _, rfl⟩ ⟨rfl, rfl⟩ rfl hl.1 rfl (Nat.le_of_ble_eq_true rfl) ⟨Nat.zero_le _, Nat.zero_le _⟩ dX9_told_81 (fun r_81 q_81 => ?_)
        subst q_81
        exact rSi S hr hlk (by rw [if_pos hJ, eix]; exact (tol_s hFli (by omega)).symm) dX9_told_84
  · skip
    have c_5 := bz_eq.mp c_5
    have hJ : ¬ isI x0 fc := c_5
    refine lv_iconst (v := (-1)) hx hb dX9_told_8 (by decide) ?_
    exact rSi S hr hlk (if_neg hJ).symm dX9_told_9

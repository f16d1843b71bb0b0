set_option maxHeartbeats 4000000 in
set_option maxRecDepth 100000 in
theorem c_X9_danceOf (l : Launch) (D : va_G) (cy : Nat → ClassId) (ad : Nat → Nat) (N : Nat) (g : Nat → va_E) (hN : 114 ≤ N) (qc : Nat) (fc : Nat) (lf : Int32) (lt : Int32) (vc : Nat) (hX : g 0 = .inr (9, [.ref (ad 1), .ref (ad 17), .ref (ad 33), .ref (ad 34), .int (nI (qc)), .ref (ad 35), .ref (ad 45), .ref (ad 47), .ref (ad 52), .int (nI (fc)), .int lf, .int lt, .ref (ad 53), .int (nI (vc)), .ref (ad 54), .ref (ad 75)])) (vf : Nat → Option Nat) (hvf : g 53 = .inl (cy 5, 4, .inr (.inr (.inr (.inr vf))))) (hvc : vc ≤ 4) (hvj : ∀ j, j < 4 → vf j = some (ad (98 + 2 * j))) (Vl : Nat → Nat) (VV : Nat → Nat → Nat) (hVo : (∀ j : Nat, j < 4 → g (98 + 2 * j) = .inr (7, [.ref (ad (98 + 2 * j + 1)), .int (nI (Vl j))]))) (hVb : (∀ j : Nat, j < 4 → g (98 + 2 * j + 1) = .inl (cy 1, 16, .inl (fun x9 => nI ((VV j) x9))))) (hVl : ∀ j, Vl j ≤ 16) (hVV : ∀ j i, VV j i < 8) (ff : Nat → Option Nat) (hff : g 52 = .inl (cy 3, 8, .inr (.inr (.inr (.inr ff))))) (hfc : fc ≤ 8) (hfj : ∀ j, j < 8 → ff j = some (ad (82 + 2 * j))) (Fl : Nat → Nat) (hFo : (∀ j : Nat, j < 8 → g (82 + 2 * j) = .inr (0, [.ref (ad (82 + 2 * j + 1)), .int (nI (Fl j))]))) (hFl : ∀ j, Fl j ≤ 200) (x0 : Int32) (what : Int32) : Met l yX9_danceOf (WS yX9_danceOf cX9_danceOf 4 (some .int)) (rmF 2 45) (PP [.ref (ad 0), .int x0, .int what] D cy ad N g) (vp_Si (fun r => r = dnA Vl VV Fl fc vc x0 what)) 0 0 (fun _ => False) := by
  refine mentry (by decide) (Nat.le_of_ble_eq_true rfl) (fun p e s m below meth c ls S hr hlk hnm hP hK hl => ?_)
  have S : CallFix p m c cX9_danceOf 4 s _ wsL_law RX9 := S
  have hx := S.1
  have hb := S.2.1
  have hl : lv_has ls 4 [(0, .ref (ad 0)), (1, .int x0), (2, .int what)] := hl
  refine lv_aload_n hx hb dX9_danceOf_0 rfl (lv_at hl 0 rfl) ?_
  refine lv_iload_n hx hb dX9_danceOf_1 rfl (lv_at hl 1 rfl) ?_
  refine kVi (As := [.int x0]) (rest := []) S hK hP (c_X9_isVillage l D cy ad N g (by omega) qc fc lf lt vc hX vf hvf hvc x0) cv_X9_253 (by omega) hX ⟨_, _, rfl⟩ ⟨rfl, rfl⟩ rfl hl.1 rfl (Nat.le_of_ble_eq_true rfl) ⟨Nat.zero_le _, Nat.zero_le _⟩ dX9_danceOf_2 (fun r_2 q_2 => ?_)
  subst q_2
  refine lv_if_ne (tgt := 10) hx hb dX9_danceOf_5 (by decide) (fun c_5 => ?_) (fun c_5 => ?_)
  · skip
    have c_5 := bz_ne.mp c_5
    obtain ⟨i, hib, rfl⟩ := isI_nat (by omega) c_5
    have hVli := hVl i
    refine lv_aload_n hx hb dX9_danceOf_10 rfl (lv_at hl 0 rfl) ?_
    refine mg S hK hP (by omega) hX fd_X9_59 rfl dX9_danceOf_11 ?_
    refine lv_iload_n hx hb dX9_danceOf_14 rfl (lv_at hl 1 rfl) ?_
    have hv9_1 : i < 4 := by omega
    have hfc_2 : g (98 + 2 * i + 1) = .inl (cy 1, 16, .inl (fun x9 => nI ((VV i) x9))) := hVb i hv9_1
    have hfc_3 : g (98 + 2 * i) = .inr (7, [.ref (ad (98 + 2 * i + 1)), .int (nI (Vl i))]) := hVo i hv9_1
    refine mial7 S hK hP (by omega) hvf rfl (vp_in_nI (by omega) (by omega)) (a := ad (98 + 2 * i)) ((congrArg vf (nI_clamp (by omega))).trans (hvj _ hv9_1)) dX9_danceOf_15 ?_
    refine lv_astore_n (lv' := [(3, .ref (ad (98 + 2 * i))), (0, .ref (ad 0)), (1, .int (nI (i))), (2, .int what)]) hx hb dX9_danceOf_16 rfl hl (by decide) rfl (fun ls hl => ?_)
    refine lv_iload_n hx hb dX9_danceOf_17 rfl (lv_at hl 3 rfl) ?_
    by_cases e18_0 : what = nI 0
    · subst e18_0
      refine lv_lookup (tgt := 44) hx hb dX9_danceOf_18 (by decide) rfl (by decide) ?_
      refine lv_aload_n hx hb dX9_danceOf_44 rfl (lv_at hl 0 rfl) ?_
      refine mg S hK hP (by omega) hfc_3 fd_X9_258 rfl dX9_danceOf_45 ?_
      exact rSi S hr hlk (dnA_0 hvc (by omega)).symm dX9_danceOf_48
    by_cases e18_1 : what = nI 1
    · subst e18_1
      refine lv_lookup (tgt := 49) hx hb dX9_danceOf_18 (by decide) rfl (by decide) ?_
      refine lv_aload_n hx hb dX9_danceOf_49 rfl (lv_at hl 1 rfl) ?_
      refine lv_aload_n hx hb dX9_danceOf_50 rfl (lv_at hl 0 rfl) ?_
      refine kVi (As := [.ref (ad (98 + 2 * i))]) (rest := []) S hK hP (c_X9_beatsOf l D cy ad N g (by omega) qc fc lf lt vc hX ff hff hfc hfj Fl hFo hFl (98 + 2 * i) (by omega) (98 + 2 * i + 1) (by omega) (Vl i) (VV i) hfc_3 hfc_2 (by omega) (hVl i) (hVV i)) cv_X9_259 (by omega) hX ⟨_, _, rfl⟩ ⟨rfl, rfl⟩ rfl hl.1 rfl (Nat.le_of_ble_eq_true rfl) ⟨Nat.zero_le _, Nat.zero_le _⟩ dX9_danceOf_51 (fun r_51 q_51 => ?_)
      subst q_51
      exact rSi S hr hlk (dnA_1 hvc (by omega)).symm dX9_danceOf_54
    refine lv_lookup (off := 37) (tgt := 55) hx hb dX9_danceOf_18 (by decide) ((lv_osw e18_0 rfl).trans ((lv_osw e18_1 rfl).trans (rfl))) (by decide) ?_
    refine lv_iload_n hx hb dX9_danceOf_55 rfl (lv_at hl 3 rfl) ?_
    refine lv_bipush (v := nI (10)) hx hb dX9_danceOf_56 (by decide) ?_
    refine lv_icmp_lt (tgt := 83) hx hb dX9_danceOf_58 (by decide) (fun c_58 => ?_) (fun c_58 => ?_)
    · skip
      refine lv_iconst (v := (-1)) hx hb dX9_danceOf_83 (by decide) ?_
      exact rSi S hr hlk (by first | exact (dnA_n hvc (by omega) e18_0 e18_1 (Or.inl c_58) hVli).symm | exact (dnA_n hvc (by omega) e18_0 e18_1 (Or.inr ⟨wj, hwjb, rfl, c_58, by omega⟩) hVli).symm) dX9_danceOf_84
    · skip
      obtain ⟨wj, hwjb, rfl⟩ := nI_of (x := what) (fun q => c_58 (Int32.lt_trans q (by decide)))
      have c_58 : 10 ≤ wj := Nat.not_lt.mp (fun q => c_58 ((nI_ltI hwjb (by decide)).mpr q))
      refine lv_iload_n hx hb dX9_danceOf_61 rfl (lv_at hl 3 rfl) ?_
      refine lv_bipush (v := nI (10)) hx hb dX9_danceOf_62 (by decide) ?_
      refine lv_aload_n hx hb dX9_danceOf_64 rfl (lv_at hl 0 rfl) ?_
      refine mg S hK hP (by omega) hfc_3 fd_X9_258 rfl dX9_danceOf_65 ?_
      refine lv_iadd hx hb dX9_danceOf_68 ?_
      refine tpi (nI_add 10 (Vl i)) ?_
      refine lv_icmp_ge (tgt := 83) hx hb dX9_danceOf_69 (by decide) (fun c_69 => ?_) (fun c_69 => ?_)
      · skip
        have c_69 := (nI_leI (by omega) (by omega)).mp c_69
        refine lv_iconst (v := (-1)) hx hb dX9_danceOf_83 (by decide) ?_
        exact rSi S hr hlk (by first | exact (dnA_n hvc (by omega) e18_0 e18_1 (Or.inl c_58) hVli).symm | exact (dnA_n hvc (by omega) e18_0 e18_1 (Or.inr ⟨wj, hwjb, rfl, c_58, by omega⟩) hVli).symm) dX9_danceOf_84
      · skip
        have c_69 := (not_congr (nI_leI (by omega) (by omega))).mp c_69
        obtain ⟨jf, rfl⟩ : ∃ jf, wj = jf + 10 := ⟨wj - 10, by omega⟩
        refine lv_aload_n hx hb dX9_danceOf_72 rfl (lv_at hl 0 rfl) ?_
        refine lv_iload_n hx hb dX9_danceOf_73 rfl (lv_at hl 3 rfl) ?_
        refine lv_bipush (v := nI (10)) hx hb dX9_danceOf_74 (by decide) ?_
        refine lv_isub hx hb dX9_danceOf_76 ?_
        refine tpi (pk_sub (a := ((jf + 10))) (b := 10) (by omega)) ?_
        refine tpi (by rw [Nat.add_sub_cancel]) ?_
        refine kVi (As := [.int (nI (jf))]) (rest := []) S hK hP (c_X7_figureAt l D cy ad N g (98 + 2 * i) (by omega) (98 + 2 * i + 1) (by omega) (Vl i) (VV i) hfc_3 hfc_2 (by omega) (hVl i) (hVV i) jf (by omega)) cv_X9_263 (by omega) hfc_3 ⟨_, _, rfl⟩ ⟨rfl, rfl⟩ rfl hl.1 rfl (Nat.le_of_ble_eq_true rfl) ⟨Nat.zero_le _, Nat.zero_le _⟩ dX9_danceOf_77 (fun r_77 q_77 => ?_)
        subst q_77
        refine tpi (if_pos (by omega)) ?_
        refine lv_goto (tgt := 84) hx hb dX9_danceOf_80 (by decide) ?_
        exact rSi S hr hlk (dnA_y hvc (by omega) hVli (by omega)).symm dX9_danceOf_84
  · skip
    have c_5 := bz_eq.mp c_5
    have hJ : ¬ isI x0 vc := c_5
    refine lv_iconst (v := (-1)) hx hb dX9_danceOf_8 (by decide) ?_
    exact rSi S hr hlk (dnA_b hJ).symm dX9_danceOf_9


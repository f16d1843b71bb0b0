set_option maxHeartbeats 4000000 in
set_option maxRecDepth 100000 in
theorem c_X9_add (l : Launch) (D : va_G) (cy : Nat → ClassId) (ad : Nat → Nat) (N : Nat) (g : Nat → va_E) (hinj : ∀ i j : Nat, i < N → j < N → ad i = ad j → i = j) (hN : 114 ≤ N) (qc : Nat) (fc : Nat) (lf : Int32) (lt : Int32) (vc : Nat) (hX : g 0 = .inr (9, [.ref (ad 1), .ref (ad 17), .ref (ad 33), .ref (ad 34), .int (nI (qc)), .ref (ad 35), .ref (ad 45), .ref (ad 47), .ref (ad 52), .int (nI (fc)), .int lf, .int lt, .ref (ad 53), .int (nI (vc)), .ref (ad 54), .ref (ad 75)])) (vf : Nat → Option Nat) (hvf : g 53 = .inl (cy 5, 4, .inr (.inr (.inr (.inr vf))))) (hvc : vc ≤ 4) (hvj : ∀ j, j < 4 → vf j = some (ad (98 + 2 * j))) (Vl : Nat → Nat) (VV : Nat → Nat → Nat) (hVo : (∀ j : Nat, j < 4 → g (98 + 2 * j) = .inr (7, [.ref (ad (98 + 2 * j + 1)), .int (nI (Vl j))]))) (hVb : (∀ j : Nat, j < 4 → g (98 + 2 * j + 1) = .inl (cy 1, 16, .inl (fun x9 => nI ((VV j) x9))))) (hVl : ∀ j, Vl j ≤ 16) (hVV : ∀ j i, VV j i < 8) (ff : Nat → Option Nat) (hff : g 52 = .inl (cy 3, 8, .inr (.inr (.inr (.inr ff))))) (hfc : fc ≤ 8) (x0 : Int32) (y0 : Int32) : Met l yX9_add (WS yX9_add cX9_add 3 (some .int)) (rmF 1 21) (PP [.ref (ad 0), .int x0, .int y0] D cy ad N g) (QI (fun r g1 => (r = if (isI x0 vc ∧ isI y0 fc) then (if Vl x0.toNatClampNeg < 16 then nI (Vl x0.toNatClampNeg + 1) else -3) else -1) ∧ (∀ j : Nat, j < 4 → g1 (98 + 2 * j) = .inr (7, [.ref (ad (98 + 2 * j + 1)), .int (nI (((if (isI x0 vc ∧ isI y0 fc) then va_up Vl x0.toNatClampNeg (apVL (Vl x0.toNatClampNeg)) else Vl)) j))])) ∧ (∀ j : Nat, j < 4 → g1 (98 + 2 * j + 1) = .inl (cy 1, 16, .inl (fun x9 => nI ((((if (isI x0 vc ∧ isI y0 fc) then va_up VV x0.toNatClampNeg (apV (VV x0.toNatClampNeg) (Vl x0.toNatClampNeg) y0.toNatClampNeg) else VV)) j) x9)))) ∧ (∀ j, (j < 98 ∨ 106 ≤ j) → g1 j = g j)) D ad N) 0 0 (AA ad N) := by
  refine mentry (by decide) (Nat.le_of_ble_eq_true rfl) (fun p e s m below meth c ls S hr hlk hnm hP hK hl => ?_)
  have S : CallFix p m c cX9_add 3 s _ wsL_law RX9 := S
  have hx := S.1
  have hb := S.2.1
  have hl : lv_has ls 3 [(0, .ref (ad 0)), (1, .int x0), (2, .int y0)] := hl
  have hI : MD (AA ad N) ad N := MD.in hinj
  have hS : va_S (AA ad N) s.heap s.heap [] := va_S.rf
  have hfr : ∀ j : Nat, g j = g j := fun _ => rfl
  refine lv_aload_n hx hb dX9_add_0 rfl (lv_at hl 0 rfl) ?_
  refine lv_iload_n hx hb dX9_add_1 rfl (lv_at hl 1 rfl) ?_
  refine kVi (As := [.int x0]) (rest := []) S hK hP (c_X9_isVillage l D cy ad N g (by omega) qc fc lf lt vc hX vf hvf hvc x0) cv_X9_253 (by omega) hX ⟨_, _, rfl⟩ ⟨rfl, rfl⟩ rfl hl.1 rfl (Nat.le_of_ble_eq_true rfl) ⟨Nat.zero_le _, Nat.zero_le _⟩ dX9_add_2 (fun r_2 q_2 => ?_)
  subst q_2
  refine lv_if_eq (tgt := 16) hx hb dX9_add_5 (by decide) (fun c_5 => ?_) (fun c_5 => ?_)
  · skip
    have c_5 := bz_eq.mp c_5
    have hJ : ¬ (isI x0 vc ∧ isI y0 fc) := fun q => c_5 q.1
    refine lv_iconst (v := (-1)) hx hb dX9_add_16 (by decide) ?_
    exact rMi S hr hlk hP hS ⟨(if_neg hJ).symm, (by rw [if_neg hJ]; exact hVo), (by rw [if_neg hJ]; exact hVb), (fun j n0 => hfr j )⟩ dX9_add_17
  · skip
    have c_5 := bz_ne.mp c_5
    have hJ1 : isI x0 vc := c_5
    obtain ⟨i, hib, rfl⟩ := isI_nat (by omega) c_5
    refine lv_aload_n hx hb dX9_add_8 rfl (lv_at hl 0 rfl) ?_
    refine lv_iload_n hx hb dX9_add_9 rfl (lv_at hl 2 rfl) ?_
    refine kVi (As := [.int y0]) (rest := []) S hK hP (c_X9_isFigure l D cy ad N g (by omega) qc fc lf lt vc hX ff hff hfc y0) cv_X9_197 (by omega) hX ⟨_, _, rfl⟩ ⟨rfl, rfl⟩ rfl hl.1 rfl (Nat.le_of_ble_eq_true rfl) ⟨Nat.zero_le _, Nat.zero_le _⟩ dX9_add_10 (fun r_10 q_10 => ?_)
    subst q_10
    refine lv_if_ne (tgt := 18) hx hb dX9_add_13 (by decide) (fun c_13 => ?_) (fun c_13 => ?_)
    · skip
      have c_13 := bz_ne.mp c_13
      have hJ : isI (nI i) vc ∧ isI y0 fc := ⟨hJ1, c_13⟩
      obtain ⟨jf, hjfb, rfl⟩ := isI_nat (by omega) c_13
      refine lv_aload_n hx hb dX9_add_18 rfl (lv_at hl 0 rfl) ?_
      refine mg S hK hP (by omega) hX fd_X9_59 rfl dX9_add_19 ?_
      refine lv_iload_n hx hb dX9_add_22 rfl (lv_at hl 1 rfl) ?_
      have hv9_1 : i < 4 := by omega
      have hfc_2 : g (98 + 2 * i + 1) = .inl (cy 1, 16, .inl (fun x9 => nI ((VV i) x9))) := hVb i hv9_1
      have hfc_3 : g (98 + 2 * i) = .inr (7, [.ref (ad (98 + 2 * i + 1)), .int (nI (Vl i))]) := hVo i hv9_1
      refine mial7 S hK hP (by omega) hvf rfl (vp_in_nI (by omega) (by omega)) (a := ad (98 + 2 * i)) ((congrArg vf (nI_clamp (by omega))).trans (hvj _ hv9_1)) dX9_add_23 ?_
      refine lv_iload_n hx hb dX9_add_24 rfl (lv_at hl 2 rfl) ?_
      refine kMi (As := [.int (nI (jf))]) (rest := []) S hK hP hS (fun _ h => h) (c_X7_append l D cy ad N g hinj (98 + 2 * i) (by omega) (98 + 2 * i + 1) (by omega) (Vl i) (VV i) hfc_3 hfc_2 (by omega) (hVl i) (hVV i) jf (by omega)) cv_X9_256 (by omega) hfc_3 ⟨_, _, rfl⟩ ⟨rfl, rfl⟩ rfl hl.1 rfl (Nat.le_of_ble_eq_true rfl) ⟨Nat.zero_le _, Nat.zero_le _⟩ dX9_add_25 (fun r_25 g_4 H locs q_4 hP hS => ?_)
      obtain ⟨q_25, h_98___2___i__4, h_98___2___i___1__4, f_4⟩ := q_4
      subst q_25
      have h0_4 : g_4 0 = .inr (9, [.ref (ad 1), .ref (ad 17), .ref (ad 33), .ref (ad 34), .int (nI (qc)), .ref (ad 35), .ref (ad 45), .ref (ad 47), .ref (ad 52), .int (nI (fc)), .int lf, .int lt, .ref (ad 53), .int (nI (vc)), .ref (ad 54), .ref (ad 75)]) := (f_4 0 (by omega) (by omega)).trans hX
      have h53_4 : g_4 53 = .inl (cy 5, 4, .inr (.inr (.inr (.inr vf)))) := (f_4 53 (by omega) (by omega)).trans hvf
      have h52_4 : g_4 52 = .inl (cy 3, 8, .inr (.inr (.inr (.inr ff)))) := (f_4 52 (by omega) (by omega)).trans hff
      have hfam_VO_4 : (∀ j : Nat, j < 4 → g_4 (98 + 2 * j) = .inr (7, [.ref (ad (98 + 2 * j + 1)), .int (nI ((va_up Vl i (apVL (Vl i))) j))])) := fam_up (id := fun j => 98 + 2 * j) (cell := fun j (w9 : Nat) => .inr (7, [.ref (ad (98 + 2 * j + 1)), .int (nI (w9))])) (fun j hj e => (f_4 (98 + 2 * j) (by omega) (by omega)).trans (hVo j hj)) h_98___2___i__4
      have hfam_VB_4 : (∀ j : Nat, j < 4 → g_4 (98 + 2 * j + 1) = .inl (cy 1, 16, .inl (fun x9 => nI (((va_up VV i (apV (VV i) (Vl i) jf)) j) x9)))) := fam_up (id := fun j => 98 + 2 * j + 1) (cell := fun j (w9 : Nat → Nat) => .inl (cy 1, 16, .inl (fun x9 => nI (w9 x9)))) (fun j hj e => (f_4 (98 + 2 * j + 1) (by omega) (by omega)).trans (hVb j hj)) h_98___2___i___1__4
      have hfr_4 : ∀ j : Nat, j ≠ (98 + 2 * i) → j ≠ (98 + 2 * i + 1) → g_4 j = g j := fun j n0 n1 => (f_4 j n0 n1).trans (hfr j )
      refine lv_if_eq (tgt := 43) hx hb dX9_add_28 (by decide) (fun c_28 => ?_) (fun c_28 => ?_)
      · skip
        have c_28 := bz_eq.mp c_28
        refine lv_bipush (v := (-3)) hx hb dX9_add_43 (by decide) ?_
        exact rMi S hr hlk hP hS ⟨(by rw [if_pos hJ, nI_clamp (by omega), if_neg c_28]), (by rw [if_pos hJ, nI_clamp (by omega)]; exact hfam_VO_4), (by rw [if_pos hJ, nI_clamp (by omega), nI_clamp (by omega)]; exact hfam_VB_4), (fun j n0 => hfr_4 j (by omega) (by omega))⟩ dX9_add_45
      · skip
        have c_28 := bz_ne.mp c_28
        refine lv_aload_n hx hb dX9_add_31 rfl (lv_at hl 0 rfl) ?_
        refine mg S hK hP (by omega) h0_4 fd_X9_59 rfl dX9_add_32 ?_
        refine lv_iload_n hx hb dX9_add_35 rfl (lv_at hl 1 rfl) ?_
        have hv9_5 : i < 4 := by omega
        refine mial7 S hK hP (by omega) h53_4 rfl (vp_in_nI (by omega) (by omega)) (a := ad (98 + 2 * i)) ((congrArg vf (nI_clamp (by omega))).trans (hvj _ hv9_5)) dX9_add_36 ?_
        refine mg S hK hP (by omega) h_98___2___i__4 fd_X9_258 rfl dX9_add_37 ?_
        refine tpi (congrArg nI (if_pos c_28)) ?_
        refine lv_goto (tgt := 45) hx hb dX9_add_40 (by decide) ?_
        exact rMi S hr hlk hP hS ⟨(by rw [if_pos hJ, nI_clamp (by omega), if_pos c_28]), (by rw [if_pos hJ, nI_clamp (by omega)]; exact hfam_VO_4), (by rw [if_pos hJ, nI_clamp (by omega), nI_clamp (by omega)]; exact hfam_VB_4), (fun j n0 => hfr_4 j (by omega) (by omega))⟩ dX9_add_45
    · skip
      have c_13 := bz_eq.mp c_13
      have hJ : ¬ (isI (nI i) vc ∧ isI y0 fc) := fun q => c_13 q.2
      refine lv_iconst (v := (-1)) hx hb dX9_add_16 (by decide) ?_
      exact rMi S hr hlk hP hS ⟨(if_neg hJ).symm, (by rw [if_neg hJ]; exact hVo), (by rw [if_neg hJ]; exact hVb), (fun j n0 => hfr j )⟩ dX9_add_17
set_option maxHeartbeats 4000000 in
set_option maxRecDepth 100000 in
theorem c_X9_beatsOf (l : Launch) (D : va_G) (cy : Nat → ClassId) (ad : Nat → Nat) (N : Nat) (g : Nat → va_E) (hN : 114 ≤ N) (qc : Nat) (fc : Nat) (lf : Int32) (lt : Int32) (vc : Nat) (hX : g 0 = .inr (9, [.ref (ad 1), .ref (ad 17), .ref (ad 33), .ref (ad 34), .int (nI (qc)), .ref (ad 35), .ref (ad 45), .ref (ad 47), .ref (ad 52), .int (nI (fc)), .int lf, .int lt, .ref (ad 53), .int (nI (vc)), .ref (ad 54), .ref (ad 75)])) (ff : Nat → Option Nat) (hff : g 52 = .inl (cy 3, 8, .inr (.inr (.inr (.inr ff))))) (hfc : fc ≤ 8) (hfj : ∀ j, j < 8 → ff j = some (ad (82 + 2 * j))) (Fl : Nat → Nat) (hFo : (∀ j : Nat, j < 8 → g (82 + 2 * j) = .inr (0, [.ref (ad (82 + 2 * j + 1)), .int (nI (Fl j))]))) (hFl : ∀ j, Fl j ≤ 200) (k1 : Nat) (hk1 : k1 < N) (kv1 : Nat) (hkv1 : kv1 < N) (n1 : Nat) (V1 : Nat → Nat) (hv1 : g k1 = .inr (7, [.ref (ad kv1), .int (nI (n1))])) (hvv1 : g kv1 = .inl (cy 1, 16, .inl (fun x9 => nI (V1 x9)))) (hk1kv : k1 ≠ kv1) (hn1 : n1 ≤ 16) (hV1 : ∀ i, V1 i < 8) : Met l yX9_beatsOf (WS yX9_beatsOf cX9_beatsOf 5 (some .int)) (rmF 1 21) (PP [.ref (ad 0), .ref (ad k1)] D cy ad N g) (vp_Si (fun r => r = nI (bts Fl fc V1 n1))) 0 0 (fun _ => False) := by
  refine mentry (by decide) (Nat.le_of_ble_eq_true rfl) (fun p e s m below meth c ls S hr hlk hnm hP hK hl => ?_)
  have S : CallFix p m c cX9_beatsOf 5 s _ wsL_law RX9 := S
  have hx := S.1
  have hb := S.2.1
  have hl : lv_has ls 5 [(0, .ref (ad 0)), (1, .ref (ad k1))] := hl
  refine lv_iconst (v := nI (0)) hx hb dX9_beatsOf_0 (by decide) ?_
  refine lv_istore_n (lv' := [(2, .int (nI (0))), (0, .ref (ad 0)), (1, .ref (ad k1))]) hx hb dX9_beatsOf_1 rfl hl (by decide) rfl (fun ls hl => ?_)
  refine lv_iconst (v := nI (0)) hx hb dX9_beatsOf_2 (by decide) ?_
  refine lv_istore_n (lv' := [(3, .int (nI (0))), (2, .int (nI (0))), (0, .ref (ad 0)), (1, .ref (ad k1))]) hx hb dX9_beatsOf_3 rfl hl (by decide) rfl (fun ls hl => ?_)
  have L4 : ∀ (fu : Nat) (i : Nat), (i ≤ n1) → (n1 - i) < fu → ∀ (ls : Array Slot), lv_has ls 5 [(3, .int (nI (i))), (2, .int (nI (bts Fl fc V1 i))), (0, .ref (ad 0)), (1, .ref (ad k1))] → W p l e (rmF 1 21) s m [.ref (ad 0), .ref (ad k1)].toArray below meth c s.heap [] 0 0 (MQ below (vp_Si (fun r => r = nI (bts Fl fc V1 n1))) [.ref (ad 0), .ref (ad k1)].toArray s 0 0 (fun _ => False)) (F0 m 4 ls []) := by
    intro fu
    induction fu with
    | zero => intro i hi hms ls hl; exact absurd hms (Nat.not_lt_zero _)
    | succ fu ih4 =>
      intro i hi hms ls hl
      have hVi := hV1 i
      have hFi := hFl (V1 i)
      have hbi := bts_le (fc := fc) (V := V1) hFl i
      refine lv_iload_n hx hb dX9_beatsOf_4 rfl (lv_at hl 0 rfl) ?_
      refine lv_aload_n hx hb dX9_beatsOf_5 rfl (lv_at hl 3 rfl) ?_
      refine mg S hK hP hk1 hv1 fd_X9_258 rfl dX9_beatsOf_6 ?_
      refine lv_icmp_ge (tgt := 47) hx hb dX9_beatsOf_9 (by decide) (fun c_9 => ?_) (fun c_9 => ?_)
      · skip
        have c_9 := (nI_leI (by omega) (by omega)).mp c_9
        refine lv_iload_n hx hb dX9_beatsOf_47 rfl (lv_at hl 1 rfl) ?_
        exact rSi S hr hlk (by rw [show n1 = i by omega]) dX9_beatsOf_48
      · skip
        have c_9 := (not_congr (nI_leI (by omega) (by omega))).mp c_9
        refine lv_aload_n hx hb dX9_beatsOf_12 rfl (lv_at hl 3 rfl) ?_
        refine lv_iload_n hx hb dX9_beatsOf_13 rfl (lv_at hl 0 rfl) ?_
        refine kVi (As := [.int (nI (i))]) (rest := []) S hK hP (c_X7_figureAt l D cy ad N g k1 hk1 kv1 hkv1 n1 V1 hv1 hvv1 hk1kv hn1 hV1 i (by omega)) cv_X9_263 hk1 hv1 ⟨_, _, rfl⟩ ⟨rfl, rfl⟩ rfl hl.1 rfl (Nat.le_of_ble_eq_true rfl) ⟨Nat.zero_le _, Nat.zero_le _⟩ dX9_beatsOf_14 (fun r_14 q_14 => ?_)
        subst q_14
        refine tpi (if_pos (by omega)) ?_
        refine lv_istore (lv' := [(4, .int (nI (V1 i))), (3, .int (nI (i))), (2, .int (nI (bts Fl fc V1 i))), (0, .ref (ad 0)), (1, .ref (ad k1))]) hx hb dX9_beatsOf_17 hl (by decide) rfl (fun ls hl => ?_)
        refine lv_aload_n hx hb dX9_beatsOf_19 rfl (lv_at hl 3 rfl) ?_
        refine lv_iload hx hb dX9_beatsOf_20 (lv_at hl 0 rfl) ?_
        refine kVi (As := [.int (nI (V1 i))]) (rest := []) S hK hP (c_X9_isFigure l D cy ad N g (by omega) qc fc lf lt vc hX ff hff hfc (nI (V1 i))) cv_X9_197 (by omega) hX ⟨_, _, rfl⟩ ⟨rfl, rfl⟩ rfl hl.1 rfl (Nat.le_of_ble_eq_true rfl) ⟨Nat.zero_le _, Nat.zero_le _⟩ dX9_beatsOf_22 (fun r_22 q_22 => ?_)
        subst q_22
        refine lv_if_eq (tgt := 41) hx hb dX9_beatsOf_25 (by decide) (fun c_25 => ?_) (fun c_25 => ?_)
        · skip
          have c_25 := bz_eq.mp c_25
          have hl : lv_has ls 5 [(4, .int (nI (V1 i))), (3, .int (nI (i))), (2, .int (nI (bts Fl fc V1 (i + 1)))), (0, .ref (ad 0)), (1, .ref (ad k1))] := by have e9 := bts_n (Fl := Fl) (fc := fc) (V := V1) (n := i) (fun q => c_25 ((isI_nI (by omega) (by omega)).mpr q)); rw [← e9]; exact hl
          refine lv_iinc (v := nI (i + 1)) (lv' := [(3, .int (nI (i + 1))), (4, .int (nI (V1 i))), (2, .int (nI (bts Fl fc V1 (i + 1)))), (0, .ref (ad 0)), (1, .ref (ad k1))]) hx hb dX9_beatsOf_41 hl (k := 1) rfl (by exact nI_add i 1) (by decide) rfl (fun ls hl => ?_)
          refine lv_goto (tgt := 4) hx hb dX9_beatsOf_44 (by decide) ?_
          exact ih4 (i + 1) (by omega) (by omega) _ (lv_sub hl [0, 2, 3, 4] rfl)
        · skip
          have c_25 := bz_ne.mp c_25
          have hq25 := (isI_nI (by omega) (by omega)).mp c_25
          refine lv_iload_n hx hb dX9_beatsOf_28 rfl (lv_at hl 2 rfl) ?_
          refine lv_aload_n hx hb dX9_beatsOf_29 rfl (lv_at hl 3 rfl) ?_
          refine mg S hK hP (by omega) hX fd_X9_53 rfl dX9_beatsOf_30 ?_
          refine lv_iload hx hb dX9_beatsOf_33 (lv_at hl 0 rfl) ?_
          have hf9_1 : V1 i < 8 := by omega
          have hfc_2 : g (82 + 2 * (V1 i)) = .inr (0, [.ref (ad (82 + 2 * (V1 i) + 1)), .int (nI (Fl (V1 i)))]) := hFo (V1 i) hf9_1
          refine mial7 S hK hP (by omega) hff rfl (vp_in_nI (by omega) (by omega)) (a := ad (82 + 2 * (V1 i))) ((congrArg ff (nI_clamp (by omega))).trans (hfj _ hf9_1)) dX9_beatsOf_35 ?_
          refine mg S hK hP (by omega) hfc_2 fd_X9_201 rfl dX9_beatsOf_36 ?_
          refine lv_iadd hx hb dX9_beatsOf_39 ?_
          refine tpi (nI_add (bts Fl fc V1 i) (Fl (V1 i))) ?_
          refine tpi (congrArg nI (bts_y ((isI_nI (by omega) (by omega)).mp c_25))) ?_
          refine lv_istore_n (lv' := [(2, .int (nI (bts Fl fc V1 (i + 1)))), (4, .int (nI (V1 i))), (3, .int (nI (i))), (0, .ref (ad 0)), (1, .ref (ad k1))]) hx hb dX9_beatsOf_40 rfl hl (by decide) rfl (fun ls hl => ?_)
          refine lv_iinc (v := nI (i + 1)) (lv' := [(3, .int (nI (i + 1))), (2, .int (nI (bts Fl fc V1 (i + 1)))), (4, .int (nI (V1 i))), (0, .ref (ad 0)), (1, .ref (ad k1))]) hx hb dX9_beatsOf_41 hl (k := 2) rfl (by exact nI_add i 1) (by decide) rfl (fun ls hl => ?_)
          refine lv_goto (tgt := 4) hx hb dX9_beatsOf_44 (by decide) ?_
          exact ih4 (i + 1) (by omega) (by omega) _ (lv_sub hl [0, 1, 3, 4] rfl)
  exact L4 ((n1 - 0) + 1) 0 (by omega) (Nat.lt_succ_self _) _ (lv_sub hl [0, 1, 2, 3] rfl)


set_option maxHeartbeats 4000000 in
set_option maxRecDepth 100000 in
theorem c_X9_count (l : Launch) (D : va_G) (cy : Nat → ClassId) (ad : Nat → Nat) (N : Nat) (g : Nat → va_E) (hN : 114 ≤ N) (qc : Nat) (fc : Nat) (lf : Int32) (lt : Int32) (vc : Nat) (hX : g 0 = .inr (9, [.ref (ad 1), .ref (ad 17), .ref (ad 33), .ref (ad 34), .int (nI (qc)), .ref (ad 35), .ref (ad 45), .ref (ad 47), .ref (ad 52), .int (nI (fc)), .int lf, .int lt, .ref (ad 53), .int (nI (vc)), .ref (ad 54), .ref (ad 75)])) (len : Nat) (rd : Nat) (kd : Nat) (pl0 : Nat) (vl : Int32) (T : Nat → Nat) (hg : g 45 = .inr (5, [.ref (ad 46), .int (nI (len)), .int (nI (rd)), .int (nI (kd)), .int (nI (pl0)), .int vl])) (hgt : g 46 = .inl (cy 0, 160, .inl (fun x9 => sb_b (T x9)))) (hlen : len ≤ 160) (hT : ∀ i, T i < 256) (sf : Nat → Option Nat) (hsf : g 75 = .inl (cy 4, 4, .inr (.inr (.inr (.inr sf))))) (hsj : ∀ j, j < 4 → sf j = some (ad (106 + 2 * j))) (Sh : Nat → Int32 × Nat) (SK : Nat → Nat → Int32) (hSo : (∀ j : Nat, j < 4 → g (106 + 2 * j) = .inr (4, [.ref (ad (106 + 2 * j + 1)), .int ((Sh j).1), .int (nI ((Sh j).2))]))) (hSk : (∀ j : Nat, j < 4 → g (106 + 2 * j + 1) = .inl (cy 1, 60, .inl (SK j)))) (hSz : ∀ j, (Sh j).2 ≤ 60) (what : Int32) : Met l yX9_count (WS yX9_count cX9_count 2 (some .int)) (rmF 1 20) (PP [.ref (ad 0), .int what] D cy ad N g) (vp_Si (fun r => r = cnA fc qc vc len (Sh 0) what)) 0 0 (fun _ => False) := by
  refine mentry (by decide) (Nat.le_of_ble_eq_true rfl) (fun p e s m below meth c ls S hr hlk hnm hP hK hl => ?_)
  have S : CallFix p m c cX9_count 2 s _ wsL_law RX9 := S
  have hx := S.1
  have hb := S.2.1
  have hl : lv_has ls 2 [(0, .ref (ad 0)), (1, .int what)] := hl
  refine lv_iload_n hx hb dX9_count_0 rfl (lv_at hl 1 rfl) ?_
  by_cases e1_0 : what = nI 0
  · subst e1_0
    refine lv_tableIn (tgt := 36) hx hb dX9_count_1 (by decide) (by decide) rfl (by decide) ?_
    refine lv_aload_n hx hb dX9_count_36 rfl (lv_at hl 0 rfl) ?_
    refine mg S hK hP (by omega) hX fd_X9_174 rfl dX9_count_37 ?_
    exact rSi S hr hlk (if_pos rfl).symm dX9_count_40
  by_cases e1_1 : what = nI 1
  · subst e1_1
    refine lv_tableIn (tgt := 41) hx hb dX9_count_1 (by decide) (by decide) rfl (by decide) ?_
    refine lv_aload_n hx hb dX9_count_41 rfl (lv_at hl 0 rfl) ?_
    refine mg S hK hP (by omega) hX fd_X9_89 rfl dX9_count_42 ?_
    exact rSi S hr hlk (by unfold cnA; rw [if_neg (by decide), if_pos rfl]) dX9_count_45
  by_cases e1_2 : what = nI 2
  · subst e1_2
    refine lv_tableIn (tgt := 46) hx hb dX9_count_1 (by decide) (by decide) rfl (by decide) ?_
    refine lv_aload_n hx hb dX9_count_46 rfl (lv_at hl 0 rfl) ?_
    refine mg S hK hP (by omega) hX fd_X9_250 rfl dX9_count_47 ?_
    exact rSi S hr hlk (by unfold cnA; rw [if_neg (by decide), if_neg (by decide), if_pos rfl]) dX9_count_50
  by_cases e1_3 : what = nI 3
  · subst e1_3
    refine lv_tableIn (tgt := 51) hx hb dX9_count_1 (by decide) (by decide) rfl (by decide) ?_
    refine lv_aload_n hx hb dX9_count_51 rfl (lv_at hl 0 rfl) ?_
    refine mg S hK hP (by omega) hX fd_X9_40 rfl dX9_count_52 ?_
    refine mg S hK hP (by omega) hg fd_X9_171 rfl dX9_count_55 ?_
    exact rSi S hr hlk (by unfold cnA; rw [if_neg (by decide), if_neg (by decide), if_neg (by decide), if_pos rfl]) dX9_count_58
  by_cases e1_4 : what = nI 4
  · subst e1_4
    refine lv_tableIn (tgt := 59) hx hb dX9_count_1 (by decide) (by decide) rfl (by decide) ?_
    refine lv_aload_n hx hb dX9_count_59 rfl (lv_at hl 0 rfl) ?_
    refine mg S hK hP (by omega) hX fd_X9_72 rfl dX9_count_60 ?_
    refine lv_iconst (v := nI (0)) hx hb dX9_count_63 (by decide) ?_
    have hs9_1 : 0 < 4 := by omega
    have hfc_2 : g (106 + 2 * 0 + 1) = .inl (cy 1, 60, .inl (SK 0)) := hSk 0 hs9_1
    have hfc_3 : g (106 + 2 * 0) = .inr (4, [.ref (ad (106 + 2 * 0 + 1)), .int ((Sh 0).1), .int (nI ((Sh 0).2))]) := hSo 0 hs9_1
    refine mial7 S hK hP (by omega) hsf rfl (vp_in_nI (by omega) (by omega)) (a := ad (106 + 2 * 0)) ((congrArg sf (nI_clamp (by omega))).trans (hsj _ hs9_1)) dX9_count_64 ?_
    refine kVi (As := []) (rest := []) S hK hP (c_X4_isNothing l D cy ad N g (106 + 2 * 0) (by omega) (106 + 2 * 0 + 1) (by omega) ((Sh 0).1) ((Sh 0).2) (SK 0) hfc_3 hfc_2 (by omega) (hSz 0)) cv_X9_283 (by omega) hfc_3 ⟨_, _, rfl⟩ ⟨rfl, rfl⟩ rfl hl.1 rfl (Nat.le_of_ble_eq_true rfl) ⟨Nat.zero_le _, Nat.zero_le _⟩ dX9_count_65 (fun r_65 q_65 => ?_)
    subst q_65
    refine lv_if_eq (tgt := 76) hx hb dX9_count_68 (by decide) (fun c_68 => ?_) (fun c_68 => ?_)
    · skip
      have c_68 := bz_eq.mp c_68
      refine lv_aload_n hx hb dX9_count_76 rfl (lv_at hl 0 rfl) ?_
      refine mg S hK hP (by omega) hX fd_X9_72 rfl dX9_count_77 ?_
      refine lv_iconst (v := nI (0)) hx hb dX9_count_80 (by decide) ?_
      have hs9_4 : 0 < 4 := by omega
      refine mial7 S hK hP (by omega) hsf rfl (vp_in_nI (by omega) (by omega)) (a := ad (106 + 2 * 0)) ((congrArg sf (nI_clamp (by omega))).trans (hsj _ hs9_4)) dX9_count_81 ?_
      refine mg S hK hP (by omega) hfc_3 fd_X9_298 rfl dX9_count_82 ?_
      exact rSi S hr hlk (by unfold cnA; rw [if_neg (by decide), if_neg (by decide), if_neg (by decide), if_neg (by decide), if_pos rfl, if_neg c_68]) dX9_count_85
    · skip
      have c_68 := bz_ne.mp c_68
      refine lv_bipush (v := (-4)) hx hb dX9_count_71 (by decide) ?_
      refine lv_goto (tgt := 85) hx hb dX9_count_73 (by decide) ?_
      exact rSi S hr hlk (by unfold cnA; rw [if_neg (by decide), if_neg (by decide), if_neg (by decide), if_neg (by decide), if_pos rfl, if_pos c_68]) dX9_count_85
  refine lv_tableOut (tgt := 86) hx hb dX9_count_1 (sw_out5 e1_0 e1_1 e1_2 e1_3 e1_4) (by decide) ?_
  refine lv_iconst (v := (-1)) hx hb dX9_count_86 (by decide) ?_
  exact rSi S hr hlk (by unfold cnA; rw [if_neg e1_0, if_neg e1_1, if_neg e1_2, if_neg e1_3, if_neg e1_4]) dX9_count_87
set_option maxHeartbeats 4000000 in
set_option maxRecDepth 100000 in
theorem c_X9_lay (l : Launch) (D : va_G) (cy : Nat → ClassId) (ad : Nat → Nat) (N : Nat) (g : Nat → va_E) (hinj : ∀ i j : Nat, i < N → j < N → ad i = ad j → i = j) (hN : 114 ≤ N) (qc : Nat) (fc : Nat) (lf : Int32) (lt : Int32) (vc : Nat) (hX : g 0 = .inr (9, [.ref (ad 1), .ref (ad 17), .ref (ad 33), .ref (ad 34), .int (nI (qc)), .ref (ad 35), .ref (ad 45), .ref (ad 47), .ref (ad 52), .int (nI (fc)), .int lf, .int lt, .ref (ad 53), .int (nI (vc)), .ref (ad 54), .ref (ad 75)])) (sf : Nat → Option Nat) (hsf : g 75 = .inl (cy 4, 4, .inr (.inr (.inr (.inr sf))))) (hsj : ∀ j, j < 4 → sf j = some (ad (106 + 2 * j))) (Sh : Nat → Int32 × Nat) (SK : Nat → Nat → Int32) (hSo : (∀ j : Nat, j < 4 → g (106 + 2 * j) = .inr (4, [.ref (ad (106 + 2 * j + 1)), .int ((Sh j).1), .int (nI ((Sh j).2))]))) (hSk : (∀ j : Nat, j < 4 → g (106 + 2 * j + 1) = .inl (cy 1, 60, .inl (SK j)))) (hSz : ∀ j, (Sh j).2 ≤ 60) (x0 : Int32) (y0 : Int32) (z0 : Int32) : Met l yX9_lay (WS yX9_lay cX9_lay 4 (some .int)) (rmF 2 43) (PP [.ref (ad 0), .int x0, .int y0, .int z0] D cy ad N g) (QI (fun r g1 => (r = if isI x0 4 then (if (Sh x0.toNatClampNeg).1 = -1 then -11 else if isI y0 (Sh x0.toNatClampNeg).2 then 1 else -12) else -1) ∧ (∀ j : Nat, j < 4 → g1 (106 + 2 * j) = .inr (4, [.ref (ad (106 + 2 * j + 1)), .int ((Sh j).1), .int (nI ((Sh j).2))])) ∧ (∀ j : Nat, j < 4 → g1 (106 + 2 * j + 1) = .inl (cy 1, 60, .inl (((if (isI x0 4 ∧ ¬ (Sh x0.toNatClampNeg).1 = -1) then va_up SK x0.toNatClampNeg (ptC (Sh x0.toNatClampNeg).1 (Sh x0.toNatClampNeg).2 (SK x0.toNatClampNeg) y0 z0) else SK)) j))) ∧ (∀ j, (j < 106 ∨ 114 ≤ j) → g1 j = g j)) D ad N) 0 0 (AA ad N) := by
  refine mentry (by decide) (Nat.le_of_ble_eq_true rfl) (fun p e s m below meth c ls S hr hlk hnm hP hK hl => ?_)
  have S : CallFix p m c cX9_lay 4 s _ wsL_law RX9 := S
  have hx := S.1
  have hb := S.2.1
  have hl : lv_has ls 4 [(0, .ref (ad 0)), (1, .int x0), (2, .int y0), (3, .int z0)] := hl
  have hI : MD (AA ad N) ad N := MD.in hinj
  have hS : va_S (AA ad N) s.heap s.heap [] := va_S.rf
  have hfr : ∀ j : Nat, g j = g j := fun _ => rfl
  refine lv_aload_n hx hb dX9_lay_0 rfl (lv_at hl 0 rfl) ?_
  refine lv_iload_n hx hb dX9_lay_1 rfl (lv_at hl 1 rfl) ?_
  refine kVi (As := [.int x0]) (rest := []) S hK hP (c_X9_isSheet l D cy ad N g (by omega) qc fc lf lt vc hX sf hsf x0) cv_X9_273 (by omega) hX ⟨_, _, rfl⟩ ⟨rfl, rfl⟩ rfl hl.1 rfl (Nat.le_of_ble_eq_true rfl) ⟨Nat.zero_le _, Nat.zero_le _⟩ dX9_lay_2 (fun r_2 q_2 => ?_)
  subst q_2
  refine lv_if_ne (tgt := 10) hx hb dX9_lay_5 (by decide) (fun c_5 => ?_) (fun c_5 => ?_)
  · skip
    have c_5 := bz_ne.mp c_5
    have hJ9 := c_5
    obtain ⟨i, hib, rfl⟩ := isI_nat (by omega) c_5
    have hSzi := hSz i
    refine lv_aload_n hx hb dX9_lay_10 rfl (lv_at hl 0 rfl) ?_
    refine mg S hK hP (by omega) hX fd_X9_72 rfl dX9_lay_11 ?_
    refine lv_iload_n hx hb dX9_lay_14 rfl (lv_at hl 1 rfl) ?_
    have hs9_1 : i < 4 := by omega
    have hfc_2 : g (106 + 2 * i + 1) = .inl (cy 1, 60, .inl (SK i)) := hSk i hs9_1
    have hfc_3 : g (106 + 2 * i) = .inr (4, [.ref (ad (106 + 2 * i + 1)), .int ((Sh i).1), .int (nI ((Sh i).2))]) := hSo i hs9_1
    refine mial7 S hK hP (by omega) hsf rfl (vp_in_nI (by omega) (by omega)) (a := ad (106 + 2 * i)) ((congrArg sf (nI_clamp (by omega))).trans (hsj _ hs9_1)) dX9_lay_15 ?_
    refine kVi (As := []) (rest := []) S hK hP (c_X4_isNothing l D cy ad N g (106 + 2 * i) (by omega) (106 + 2 * i + 1) (by omega) ((Sh i).1) ((Sh i).2) (SK i) hfc_3 hfc_2 (by omega) (hSz i)) cv_X9_283 (by omega) hfc_3 ⟨_, _, rfl⟩ ⟨rfl, rfl⟩ rfl hl.1 rfl (Nat.le_of_ble_eq_true rfl) ⟨Nat.zero_le _, Nat.zero_le _⟩ dX9_lay_16 (fun r_16 q_16 => ?_)
    subst q_16
    refine lv_if_eq (tgt := 25) hx hb dX9_lay_19 (by decide) (fun c_19 => ?_) (fun c_19 => ?_)
    · skip
      have c_19 := bz_eq.mp c_19
      have hJ : (isI (nI i) 4 ∧ ¬ (Sh (nI i).toNatClampNeg).1 = -1) := ⟨hJ9, by rw [nI_clamp (by omega)]; exact c_19⟩
      refine lv_aload_n hx hb dX9_lay_25 rfl (lv_at hl 0 rfl) ?_
      refine mg S hK hP (by omega) hX fd_X9_72 rfl dX9_lay_26 ?_
      refine lv_iload_n hx hb dX9_lay_29 rfl (lv_at hl 1 rfl) ?_
      have hs9_4 : i < 4 := by omega
      refine mial7 S hK hP (by omega) hsf rfl (vp_in_nI (by omega) (by omega)) (a := ad (106 + 2 * i)) ((congrArg sf (nI_clamp (by omega))).trans (hsj _ hs9_4)) dX9_lay_30 ?_
      refine lv_iload_n hx hb dX9_lay_31 rfl (lv_at hl 2 rfl) ?_
      refine lv_iload_n hx hb dX9_lay_32 rfl (lv_at hl 3 rfl) ?_
      refine kMi (As := [.int y0, .int z0]) (rest := []) S hK hP hS (fun _ h => h) (c_X4_put l D cy ad N g hinj (106 + 2 * i) (by omega) (106 + 2 * i + 1) (by omega) ((Sh i).1) ((Sh i).2) (SK i) hfc_3 hfc_2 (by omega) (hSz i) y0 z0) cv_X9_286 (by omega) hfc_3 ⟨_, _, rfl⟩ ⟨rfl, rfl⟩ rfl hl.1 rfl (Nat.le_of_ble_eq_true rfl) ⟨Nat.zero_le _, Nat.zero_le _⟩ dX9_lay_33 (fun r_33 g_5 H locs q_5 hP hS => ?_)
      obtain ⟨q_33, h_106___2___i__5, h_106___2___i___1__5, f_5⟩ := q_5
      have h0_5 : g_5 0 = .inr (9, [.ref (ad 1), .ref (ad 17), .ref (ad 33), .ref (ad 34), .int (nI (qc)), .ref (ad 35), .ref (ad 45), .ref (ad 47), .ref (ad 52), .int (nI (fc)), .int lf, .int lt, .ref (ad 53), .int (nI (vc)), .ref (ad 54), .ref (ad 75)]) := (f_5 0 (by omega) (by omega)).trans hX
      have h75_5 : g_5 75 = .inl (cy 4, 4, .inr (.inr (.inr (.inr sf)))) := (f_5 75 (by omega) (by omega)).trans hsf
      have hfam_SO_5 : (∀ j : Nat, j < 4 → g_5 (106 + 2 * j) = .inr (4, [.ref (ad (106 + 2 * j + 1)), .int (((va_up Sh i ((((Sh i).1), ((Sh i).2)))) j).1), .int (nI (((va_up Sh i ((((Sh i).1), ((Sh i).2)))) j).2))])) := fam_up (id := fun j => 106 + 2 * j) (cell := fun j (w9 : Int32 × Nat) => .inr (4, [.ref (ad (106 + 2 * j + 1)), .int w9.1, .int (nI (w9.2))])) (fun j hj e => (f_5 (106 + 2 * j) (by omega) (by omega)).trans (hSo j hj)) h_106___2___i__5
      have hfam_SC_5 : (∀ j : Nat, j < 4 → g_5 (106 + 2 * j + 1) = .inl (cy 1, 60, .inl ((va_up SK i (ptC ((Sh i).1) ((Sh i).2) (SK i) y0 z0)) j))) := fam_up (id := fun j => 106 + 2 * j + 1) (cell := fun j (w9 : Nat → Int32) => .inl (cy 1, 60, .inl w9)) (fun j hj e => (f_5 (106 + 2 * j + 1) (by omega) (by omega)).trans (hSk j hj)) h_106___2___i___1__5
      have hfr_5 : ∀ j : Nat, j ≠ (106 + 2 * i) → j ≠ (106 + 2 * i + 1) → g_5 j = g j := fun j n0 n1 => (f_5 j n0 n1).trans (hfr j )
      refine lv_if_eq (tgt := 43) hx hb dX9_lay_36 (by decide) (fun c_36 => ?_) (fun c_36 => ?_)
      · skip
        refine lv_bipush (v := (-12)) hx hb dX9_lay_43 (by decide) ?_
        exact rMi S hr hlk hP hS ⟨(by rw [if_pos hJ9, nI_clamp (by omega), if_neg c_19]; rcases q_33 with ⟨q1, q2⟩ | ⟨q1, q2⟩; rw [q1] at c_36; exact absurd c_36 (by decide); rw [if_neg (fun q => q2 ((inC_isI (by omega)).mpr q))]), (by have h9 := hfam_SO_5; rw [va_up_id Sh i rfl] at h9; exact h9), (by rw [if_pos hJ, nI_clamp (by omega)]; exact hfam_SC_5), (fun j n0 => hfr_5 j (by omega) (by omega))⟩ dX9_lay_45
      · skip
        refine lv_iconst (v := nI (1)) hx hb dX9_lay_39 (by decide) ?_
        refine lv_goto (tgt := 45) hx hb dX9_lay_40 (by decide) ?_
        exact rMi S hr hlk hP hS ⟨(by rw [if_pos hJ9, nI_clamp (by omega), if_neg c_19]; rcases q_33 with ⟨q1, q2⟩ | ⟨q1, q2⟩; rw [if_pos ((inC_isI (by omega)).mp q2)]; rfl; exact absurd q1 c_36), (by have h9 := hfam_SO_5; rw [va_up_id Sh i rfl] at h9; exact h9), (by rw [if_pos hJ, nI_clamp (by omega)]; exact hfam_SC_5), (fun j n0 => hfr_5 j (by omega) (by omega))⟩ dX9_lay_45
    · skip
      have c_19 := bz_ne.mp c_19
      have hJ : ¬ (isI (nI i) 4 ∧ ¬ (Sh (nI i).toNatClampNeg).1 = -1) := fun q => q.2 (by rw [nI_clamp (by omega)]; exact c_19)
      refine lv_bipush (v := (-11)) hx hb dX9_lay_22 (by decide) ?_
      exact rMi S hr hlk hP hS ⟨(by rw [if_pos hJ9, nI_clamp (by omega), if_pos c_19]), hSo, (by rw [if_neg hJ]; exact hSk), (fun j n0 => hfr j )⟩ dX9_lay_24
  · skip
    have c_5 := bz_eq.mp c_5
    have hJ9 : ¬ isI x0 4 := c_5
    have hJ : ¬ (isI x0 4 ∧ ¬ (Sh x0.toNatClampNeg).1 = -1) := fun q => c_5 q.1
    refine lv_iconst (v := (-1)) hx hb dX9_lay_8 (by decide) ?_
    exact rMi S hr hlk hP hS ⟨(if_neg hJ9).symm, hSo, (by rw [if_neg hJ]; exact hSk), (fun j n0 => hfr j )⟩ dX9_lay_9

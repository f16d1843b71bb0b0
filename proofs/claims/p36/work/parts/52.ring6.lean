set_option maxHeartbeats 4000000 in
set_option maxRecDepth 100000 in
theorem c_X9_shared (l : Launch) (D : va_G) (cy : Nat → ClassId) (ad : Nat → Nat) (N : Nat) (g : Nat → va_E) (hinj : ∀ i j : Nat, i < N → j < N → ad i = ad j → i = j) (hN : 114 ≤ N) (qc : Nat) (fc : Nat) (lf : Int32) (lt : Int32) (vc : Nat) (hX : g 0 = .inr (9, [.ref (ad 1), .ref (ad 17), .ref (ad 33), .ref (ad 34), .int (nI (qc)), .ref (ad 35), .ref (ad 45), .ref (ad 47), .ref (ad 52), .int (nI (fc)), .int lf, .int lt, .ref (ad 53), .int (nI (vc)), .ref (ad 54), .ref (ad 75)])) (vf : Nat → Option Nat) (hvf : g 53 = .inl (cy 5, 4, .inr (.inr (.inr (.inr vf))))) (hvc : vc ≤ 4) (hvj : ∀ j, j < 4 → vf j = some (ad (98 + 2 * j))) (Vl : Nat → Nat) (VV : Nat → Nat → Nat) (hVo : (∀ j : Nat, j < 4 → g (98 + 2 * j) = .inr (7, [.ref (ad (98 + 2 * j + 1)), .int (nI (Vl j))]))) (hVb : (∀ j : Nat, j < 4 → g (98 + 2 * j + 1) = .inl (cy 1, 16, .inl (fun x9 => nI ((VV j) x9))))) (hVl : ∀ j, Vl j ≤ 16) (hVV : ∀ j i, VV j i < 8) (hg : g 54 = .inr (3, [.ref (ad (54 + 1)), .ref (ad (54 + 19))])) (rfn : Nat → Option Nat) (hgo : g (54 + 1) = .inl (cy 7, 17, .inr (.inr (.inr (.inr rfn))))) (hrf : ∀ j, j < 17 → rfn j = some (ad (54 + 2 + j))) (Lm : Nat → Nat → Nat) (hLm : (∀ j : Nat, j < 17 → g (54 + 2 + j) = .inl (cy 1, 17, .inl (fun x9 => nI ((Lm j) x9))))) (hLmb : ∀ i j, Lm i j ≤ 100) (r0 : Nat) (R0 : Nat → Nat) (hvr : g (54 + 19) = .inr (7, [.ref (ad (54 + 20)), .int (nI (r0))])) (hvvr : g (54 + 20) = .inl (cy 1, 16, .inl (fun x9 => nI (R0 x9)))) (hR8 : ∀ i, R0 i < 8) (hr016 : r0 ≤ 16) (x0 : Int32) (y0 : Int32) (z0 : Int32) : Met l yX9_shared (WS yX9_shared cX9_shared 4 (some .int)) (rmF 4 98) (PP [.ref (ad 0), .int x0, .int y0, .int z0] D cy ad N g) (QI (fun r g1 => ∃ (Lr : Nat → Nat → Nat), (r = if (isI x0 vc ∧ isI y0 vc ∧ (¬ z0 < 0 ∨ z0 = -4)) then (if z0 = -4 then nI (lc (VV x0.toNatClampNeg) (VV y0.toNatClampNeg) (Vl x0.toNatClampNeg) (Vl y0.toNatClampNeg) 0 0) else if z0 < nI (lc (VV x0.toNatClampNeg) (VV y0.toNatClampNeg) (Vl x0.toNatClampNeg) (Vl y0.toNatClampNeg) 0 0) then nI (sRw (VV x0.toNatClampNeg) (VV y0.toNatClampNeg) (Vl x0.toNatClampNeg) (Vl y0.toNatClampNeg) R0 (lc (VV x0.toNatClampNeg) (VV y0.toNatClampNeg) (Vl x0.toNatClampNeg) (Vl y0.toNatClampNeg) 0 0) z0.toNatClampNeg) else -4) else -1) ∧ (∀ a x, Lr a x ≤ 100) ∧ g1 (54 + 19) = .inr (7, [.ref (ad (54 + 20)), .int (nI ((if (isI x0 vc ∧ isI y0 vc ∧ (¬ z0 < 0 ∨ z0 = -4)) then lc (VV x0.toNatClampNeg) (VV y0.toNatClampNeg) (Vl x0.toNatClampNeg) (Vl y0.toNatClampNeg) 0 0 else r0)))]) ∧ g1 (54 + 20) = .inl (cy 1, 16, .inl (fun x9 => nI (((if (isI x0 vc ∧ isI y0 vc ∧ (¬ z0 < 0 ∨ z0 = -4)) then sRw (VV x0.toNatClampNeg) (VV y0.toNatClampNeg) (Vl x0.toNatClampNeg) (Vl y0.toNatClampNeg) R0 (lc (VV x0.toNatClampNeg) (VV y0.toNatClampNeg) (Vl x0.toNatClampNeg) (Vl y0.toNatClampNeg) 0 0) else R0)) x9))) ∧ (∀ j : Nat, j < 17 → g1 (54 + 2 + j) = .inl (cy 1, 17, .inl (fun x9 => nI ((Lr j) x9)))) ∧ (∀ j, (j < 56 ∨ 75 ≤ j) → g1 j = g j)) D ad N) 0 0 (AA ad N) := by
  refine mentry (by decide) (Nat.le_of_ble_eq_true rfl) (fun p e s m below meth c ls S hr hlk hnm hP hK hl => ?_)
  have S : CallFix p m c cX9_shared 4 s _ wsL_law RX9 := S
  have hx := S.1
  have hb := S.2.1
  have hl : lv_has ls 4 [(0, .ref (ad 0)), (1, .int x0), (2, .int y0), (3, .int z0)] := hl
  have hI : MD (AA ad N) ad N := MD.in hinj
  have hS : va_S (AA ad N) s.heap s.heap [] := va_S.rf
  have hfr : ∀ j : Nat, g j = g j := fun _ => rfl
  refine lv_aload_n hx hb dX9_shared_0 rfl (lv_at hl 0 rfl) ?_
  refine lv_iload_n hx hb dX9_shared_1 rfl (lv_at hl 1 rfl) ?_
  refine kVi (As := [.int x0]) (rest := []) S hK hP (c_X9_isVillage l D cy ad N g (by omega) qc fc lf lt vc hX vf hvf hvc x0) cv_X9_253 (by omega) hX ⟨_, _, rfl⟩ ⟨rfl, rfl⟩ rfl hl.1 rfl (Nat.le_of_ble_eq_true rfl) ⟨Nat.zero_le _, Nat.zero_le _⟩ dX9_shared_2 (fun r_2 q_2 => ?_)
  subst q_2
  refine lv_if_eq (tgt := 26) hx hb dX9_shared_5 (by decide) (fun c_5 => ?_) (fun c_5 => ?_)
  · skip
    have c_5 := bz_eq.mp c_5
    have hJ : ¬ (isI x0 vc ∧ isI y0 vc ∧ (¬ z0 < 0 ∨ z0 = -4)) := fun q => c_5 q.1
    refine lv_iconst (v := (-1)) hx hb dX9_shared_26 (by decide) ?_
    exact rMi S hr hlk hP hS ⟨Lm, (if_neg hJ).symm, hLmb, (by rw [if_neg hJ]; exact hvr), (by rw [if_neg hJ]; exact hvvr), hLm, (fun j n0 => hfr j )⟩ dX9_shared_27
  · skip
    have c_5 := bz_ne.mp c_5
    have hJ1 := c_5
    obtain ⟨i, hib, rfl⟩ := isI_nat (by omega) c_5
    refine lv_aload_n hx hb dX9_shared_8 rfl (lv_at hl 0 rfl) ?_
    refine lv_iload_n hx hb dX9_shared_9 rfl (lv_at hl 2 rfl) ?_
    refine kVi (As := [.int y0]) (rest := []) S hK hP (c_X9_isVillage l D cy ad N g (by omega) qc fc lf lt vc hX vf hvf hvc y0) cv_X9_253 (by omega) hX ⟨_, _, rfl⟩ ⟨rfl, rfl⟩ rfl hl.1 rfl (Nat.le_of_ble_eq_true rfl) ⟨Nat.zero_le _, Nat.zero_le _⟩ dX9_shared_10 (fun r_10 q_10 => ?_)
    subst q_10
    refine lv_if_eq (tgt := 26) hx hb dX9_shared_13 (by decide) (fun c_13 => ?_) (fun c_13 => ?_)
    · skip
      have c_13 := bz_eq.mp c_13
      have hJ : ¬ (isI (nI i) vc ∧ isI y0 vc ∧ (¬ z0 < 0 ∨ z0 = -4)) := fun q => c_13 q.2.1
      refine lv_iconst (v := (-1)) hx hb dX9_shared_26 (by decide) ?_
      exact rMi S hr hlk hP hS ⟨Lm, (if_neg hJ).symm, hLmb, (by rw [if_neg hJ]; exact hvr), (by rw [if_neg hJ]; exact hvvr), hLm, (fun j n0 => hfr j )⟩ dX9_shared_27
    · skip
      have c_13 := bz_ne.mp c_13
      have hJ2 := c_13
      obtain ⟨jf, hjfb, rfl⟩ := isI_nat (by omega) c_13
      have hVi9 := hVl i
      have hVj9 := hVl jf
      have hLb := lc_n (V1 := VV i) (V2 := VV jf) (n1 := Vl i) (n2 := Vl jf)
      refine lv_iload_n hx hb dX9_shared_16 rfl (lv_at hl 3 rfl) ?_
      refine lv_if_ge (tgt := 28) hx hb dX9_shared_17 (by decide) (fun c_17 => ?_) (fun c_17 => ?_)
      · skip
        obtain ⟨zj, hzjb, rfl⟩ := nI_of (Int32.not_lt.mpr c_17)
        have hJ : isI (nI i) vc ∧ isI (nI jf) vc ∧ (¬ nI zj < 0 ∨ nI zj = -4) := ⟨hJ1, hJ2, Or.inl (fun q => ((z_lt hzjb).mp q).elim)⟩
        refine lv_aload_n hx hb dX9_shared_28 rfl (lv_at hl 0 rfl) ?_
        refine mg S hK hP (by omega) hX fd_X9_66 rfl dX9_shared_29 ?_
        refine lv_aload_n hx hb dX9_shared_32 rfl (lv_at hl 0 rfl) ?_
        refine mg S hK hP (by omega) hX fd_X9_59 rfl dX9_shared_33 ?_
        refine lv_iload_n hx hb dX9_shared_36 rfl (lv_at hl 1 rfl) ?_
        have hv9_1 : i < 4 := by omega
        have hfc_2 : g (98 + 2 * i + 1) = .inl (cy 1, 16, .inl (fun x9 => nI ((VV i) x9))) := hVb i hv9_1
        have hfc_3 : g (98 + 2 * i) = .inr (7, [.ref (ad (98 + 2 * i + 1)), .int (nI (Vl i))]) := hVo i hv9_1
        refine mial7 S hK hP (by omega) hvf rfl (vp_in_nI (by omega) (by omega)) (a := ad (98 + 2 * i)) ((congrArg vf (nI_clamp (by omega))).trans (hvj _ hv9_1)) dX9_shared_37 ?_
        refine lv_aload_n hx hb dX9_shared_38 rfl (lv_at hl 0 rfl) ?_
        refine mg S hK hP (by omega) hX fd_X9_59 rfl dX9_shared_39 ?_
        refine lv_iload_n hx hb dX9_shared_42 rfl (lv_at hl 2 rfl) ?_
        have hv9_4 : jf < 4 := by omega
        have hfc_5 : g (98 + 2 * jf + 1) = .inl (cy 1, 16, .inl (fun x9 => nI ((VV jf) x9))) := hVb jf hv9_4
        have hfc_6 : g (98 + 2 * jf) = .inr (7, [.ref (ad (98 + 2 * jf + 1)), .int (nI (Vl jf))]) := hVo jf hv9_4
        refine mial7 S hK hP (by omega) hvf rfl (vp_in_nI (by omega) (by omega)) (a := ad (98 + 2 * jf)) ((congrArg vf (nI_clamp (by omega))).trans (hvj _ hv9_4)) dX9_shared_43 ?_
        refine kMv (As := [.ref (ad (98 + 2 * i)), .ref (ad (98 + 2 * jf))]) (rest := []) S hK hP hS (fun _ h => h) (c_X3_find l D cy ad N g hinj 54 (by omega) hg rfn hgo hrf Lm hLm hLmb (98 + 2 * i) (by omega) (98 + 2 * i + 1) (by omega) (Vl i) (VV i) hfc_3 hfc_2 (by omega) (hVl i) (hVV i) (by omega) (98 + 2 * jf) (by omega) (98 + 2 * jf + 1) (by omega) (Vl jf) (VV jf) hfc_6 hfc_5 (by omega) (hVl jf) (hVV jf) (by omega) r0 R0 hvr hvvr hR8) cv_X9_266 (by omega) hg ⟨_, _, rfl⟩ ⟨rfl, rfl⟩ rfl hl.1 rfl (Nat.le_of_ble_eq_true rfl) ⟨Nat.zero_le _, Nat.zero_le _⟩ dX9_shared_44 (fun g_7 H locs q_7 hP hS => ?_)
        obtain ⟨Lr_7, hLrb_7, h54___19_7, h54___20_7, hfam_R_7, f_7⟩ := q_7
        have h0_7 : g_7 0 = .inr (9, [.ref (ad 1), .ref (ad 17), .ref (ad 33), .ref (ad 34), .int (nI (qc)), .ref (ad 35), .ref (ad 45), .ref (ad 47), .ref (ad 52), .int (nI (fc)), .int lf, .int lt, .ref (ad 53), .int (nI (vc)), .ref (ad 54), .ref (ad 75)]) := (f_7 0 (by omega)).trans hX
        have h53_7 : g_7 53 = .inl (cy 5, 4, .inr (.inr (.inr (.inr vf)))) := (f_7 53 (by omega)).trans hvf
        have h54_7 : g_7 54 = .inr (3, [.ref (ad (54 + 1)), .ref (ad (54 + 19))]) := (f_7 54 (by omega)).trans hg
        have h54___1_7 : g_7 (54 + 1) = .inl (cy 7, 17, .inr (.inr (.inr (.inr rfn)))) := (f_7 (54 + 1) (by omega)).trans hgo
        have h98___2___i___1_7 : g_7 (98 + 2 * i + 1) = .inl (cy 1, 16, .inl (fun x9 => nI ((VV i) x9))) := (f_7 (98 + 2 * i + 1) (by omega)).trans hfc_2
        have h98___2___i_7 : g_7 (98 + 2 * i) = .inr (7, [.ref (ad (98 + 2 * i + 1)), .int (nI (Vl i))]) := (f_7 (98 + 2 * i) (by omega)).trans hfc_3
        have h98___2___jf___1_7 : g_7 (98 + 2 * jf + 1) = .inl (cy 1, 16, .inl (fun x9 => nI ((VV jf) x9))) := (f_7 (98 + 2 * jf + 1) (by omega)).trans hfc_5
        have h98___2___jf_7 : g_7 (98 + 2 * jf) = .inr (7, [.ref (ad (98 + 2 * jf + 1)), .int (nI (Vl jf))]) := (f_7 (98 + 2 * jf) (by omega)).trans hfc_6
        have hfam_VO_7 : (∀ j : Nat, j < 4 → g_7 (98 + 2 * j) = .inr (7, [.ref (ad (98 + 2 * j + 1)), .int (nI (Vl j))])) := fun j hj => (f_7 (98 + 2 * j) (by omega)).trans (hVo j hj)
        have hfam_VB_7 : (∀ j : Nat, j < 4 → g_7 (98 + 2 * j + 1) = .inl (cy 1, 16, .inl (fun x9 => nI ((VV j) x9)))) := fun j hj => (f_7 (98 + 2 * j + 1) (by omega)).trans (hVb j hj)
        have hfr_7 : ∀ j : Nat, (j < 54 + 2 ∨ 54 + 21 ≤ j) → g_7 j = g j := fun j n0 => (f_7 j n0).trans (hfr j )
        refine lv_iload_n hx hb dX9_shared_47 rfl (lv_at hl 3 rfl) ?_
        refine lv_bipush (v := (-4)) hx hb dX9_shared_48 (by decide) ?_
        refine lv_icmp_ne (tgt := 64) hx hb dX9_shared_50 (by decide) (fun c_50 => ?_) (fun c_50 => ?_)
        · skip
          refine lv_iload_n hx hb dX9_shared_64 rfl (lv_at hl 3 rfl) ?_
          refine lv_aload_n hx hb dX9_shared_65 rfl (lv_at hl 0 rfl) ?_
          refine mg S hK hP (by omega) h0_7 fd_X9_66 rfl dX9_shared_66 ?_
          refine mg S hK hP (by omega) h54_7 fd_X9_269 rfl dX9_shared_69 ?_
          refine mg S hK hP (by omega) h54___19_7 fd_X9_258 rfl dX9_shared_72 ?_
          refine lv_icmp_ge (tgt := 92) hx hb dX9_shared_75 (by decide) (fun c_75 => ?_) (fun c_75 => ?_)
          · skip
            have c_75 := (nI_leI (by omega) (by omega)).mp c_75
            refine lv_bipush (v := (-4)) hx hb dX9_shared_92 (by decide) ?_
            exact rMi S hr hlk hP hS ⟨Lr_7, (by rw [if_pos hJ, if_neg (nI_m4 hzjb), nI_clamp (n := i) (by omega), nI_clamp (n := jf) (by omega), if_neg (fun q => by have := (nI_ltI hzjb (by omega)).mp q; omega)]), hLrb_7, (by rw [if_pos hJ, nI_clamp (by omega), nI_clamp (by omega)]; exact h54___19_7), (by rw [if_pos hJ, nI_clamp (by omega), nI_clamp (by omega)]; exact h54___20_7), hfam_R_7, (fun j n0 => hfr_7 j (by omega))⟩ dX9_shared_94
          · skip
            have c_75 := (not_congr (nI_leI (by omega) (by omega))).mp c_75
            refine lv_aload_n hx hb dX9_shared_78 rfl (lv_at hl 0 rfl) ?_
            refine mg S hK hP (by omega) h0_7 fd_X9_66 rfl dX9_shared_79 ?_
            refine mg S hK hP (by omega) h54_7 fd_X9_269 rfl dX9_shared_82 ?_
            refine lv_iload_n hx hb dX9_shared_85 rfl (lv_at hl 3 rfl) ?_
            refine kVi (As := [.int (nI (zj))]) (rest := []) S hK hP (c_X7_figureAt l D cy ad N g_7 (54 + 19) (by omega) (54 + 20) (by omega) (lc (VV i) (VV jf) (Vl i) (Vl jf) 0 0) (sRw (VV i) (VV jf) (Vl i) (Vl jf) R0 (lc (VV i) (VV jf) (Vl i) (Vl jf) 0 0)) h54___19_7 h54___20_7 (by omega) (by omega) (sRw_8 (hVV i) hR8 (Nat.le_refl _)) zj (by omega)) cv_X9_263 (by omega) h54___19_7 ⟨_, _, rfl⟩ ⟨rfl, rfl⟩ rfl hl.1 rfl (Nat.le_of_ble_eq_true rfl) ⟨Nat.zero_le _, Nat.zero_le _⟩ dX9_shared_86 (fun r_86 q_86 => ?_)
            subst q_86
            refine tpi (if_pos (by omega)) ?_
            refine lv_goto (tgt := 94) hx hb dX9_shared_89 (by decide) ?_
            exact rMi S hr hlk hP hS ⟨Lr_7, (by rw [if_pos hJ, if_neg (nI_m4 hzjb), nI_clamp (n := i) (by omega), nI_clamp (n := jf) (by omega), if_pos ((nI_ltI hzjb (by omega)).mpr (by omega)), nI_clamp (n := zj) (by omega)]), hLrb_7, (by rw [if_pos hJ, nI_clamp (by omega), nI_clamp (by omega)]; exact h54___19_7), (by rw [if_pos hJ, nI_clamp (by omega), nI_clamp (by omega)]; exact h54___20_7), hfam_R_7, (fun j n0 => hfr_7 j (by omega))⟩ dX9_shared_94
        · skip
          exact absurd c_50 (nI_m4 hzjb)
      · skip
        refine lv_iload_n hx hb dX9_shared_20 rfl (lv_at hl 3 rfl) ?_
        refine lv_bipush (v := (-4)) hx hb dX9_shared_21 (by decide) ?_
        refine lv_icmp_eq (tgt := 28) hx hb dX9_shared_23 (by decide) (fun c_23 => ?_) (fun c_23 => ?_)
        · skip
          have hJ : isI (nI i) vc ∧ isI (nI jf) vc ∧ (¬ z0 < 0 ∨ z0 = -4) := ⟨hJ1, hJ2, Or.inr c_23⟩
          refine lv_aload_n hx hb dX9_shared_28 rfl (lv_at hl 0 rfl) ?_
          refine mg S hK hP (by omega) hX fd_X9_66 rfl dX9_shared_29 ?_
          refine lv_aload_n hx hb dX9_shared_32 rfl (lv_at hl 0 rfl) ?_
          refine mg S hK hP (by omega) hX fd_X9_59 rfl dX9_shared_33 ?_
          refine lv_iload_n hx hb dX9_shared_36 rfl (lv_at hl 1 rfl) ?_
          have hv9_8 : i < 4 := by omega
          have hfc_9 : g (98 + 2 * i + 1) = .inl (cy 1, 16, .inl (fun x9 => nI ((VV i) x9))) := hVb i hv9_8
          have hfc_10 : g (98 + 2 * i) = .inr (7, [.ref (ad (98 + 2 * i + 1)), .int (nI (Vl i))]) := hVo i hv9_8
          refine mial7 S hK hP (by omega) hvf rfl (vp_in_nI (by omega) (by omega)) (a := ad (98 + 2 * i)) ((congrArg vf (nI_clamp (by omega))).trans (hvj _ hv9_8)) dX9_shared_37 ?_
          refine lv_aload_n hx hb dX9_shared_38 rfl (lv_at hl 0 rfl) ?_
          refine mg S hK hP (by omega) hX fd_X9_59 rfl dX9_shared_39 ?_
          refine lv_iload_n hx hb dX9_shared_42 rfl (lv_at hl 2 rfl) ?_
          have hv9_11 : jf < 4 := by omega
          have hfc_12 : g (98 + 2 * jf + 1) = .inl (cy 1, 16, .inl (fun x9 => nI ((VV jf) x9))) := hVb jf hv9_11
          have hfc_13 : g (98 + 2 * jf) = .inr (7, [.ref (ad (98 + 2 * jf + 1)), .int (nI (Vl jf))]) := hVo jf hv9_11
          refine mial7 S hK hP (by omega) hvf rfl (vp_in_nI (by omega) (by omega)) (a := ad (98 + 2 * jf)) ((congrArg vf (nI_clamp (by omega))).trans (hvj _ hv9_11)) dX9_shared_43 ?_
          refine kMv (As := [.ref (ad (98 + 2 * i)), .ref (ad (98 + 2 * jf))]) (rest := []) S hK hP hS (fun _ h => h) (c_X3_find l D cy ad N g hinj 54 (by omega) hg rfn hgo hrf Lm hLm hLmb (98 + 2 * i) (by omega) (98 + 2 * i + 1) (by omega) (Vl i) (VV i) hfc_10 hfc_9 (by omega) (hVl i) (hVV i) (by omega) (98 + 2 * jf) (by omega) (98 + 2 * jf + 1) (by omega) (Vl jf) (VV jf) hfc_13 hfc_12 (by omega) (hVl jf) (hVV jf) (by omega) r0 R0 hvr hvvr hR8) cv_X9_266 (by omega) hg ⟨_, _, rfl⟩ ⟨rfl, rfl⟩ rfl hl.1 rfl (Nat.le_of_ble_eq_true rfl) ⟨Nat.zero_le _, Nat.zero_le _⟩ dX9_shared_44 (fun g_14 H locs q_14 hP hS => ?_)
          obtain ⟨Lr_14, hLrb_14, h54___19_14, h54___20_14, hfam_R_14, f_14⟩ := q_14
          have h0_14 : g_14 0 = .inr (9, [.ref (ad 1), .ref (ad 17), .ref (ad 33), .ref (ad 34), .int (nI (qc)), .ref (ad 35), .ref (ad 45), .ref (ad 47), .ref (ad 52), .int (nI (fc)), .int lf, .int lt, .ref (ad 53), .int (nI (vc)), .ref (ad 54), .ref (ad 75)]) := (f_14 0 (by omega)).trans hX
          have h53_14 : g_14 53 = .inl (cy 5, 4, .inr (.inr (.inr (.inr vf)))) := (f_14 53 (by omega)).trans hvf
          have h54_14 : g_14 54 = .inr (3, [.ref (ad (54 + 1)), .ref (ad (54 + 19))]) := (f_14 54 (by omega)).trans hg
          have h54___1_14 : g_14 (54 + 1) = .inl (cy 7, 17, .inr (.inr (.inr (.inr rfn)))) := (f_14 (54 + 1) (by omega)).trans hgo
          have h98___2___i___1_14 : g_14 (98 + 2 * i + 1) = .inl (cy 1, 16, .inl (fun x9 => nI ((VV i) x9))) := (f_14 (98 + 2 * i + 1) (by omega)).trans hfc_9
          have h98___2___i_14 : g_14 (98 + 2 * i) = .inr (7, [.ref (ad (98 + 2 * i + 1)), .int (nI (Vl i))]) := (f_14 (98 + 2 * i) (by omega)).trans hfc_10
          have h98___2___jf___1_14 : g_14 (98 + 2 * jf + 1) = .inl (cy 1, 16, .inl (fun x9 => nI ((VV jf) x9))) := (f_14 (98 + 2 * jf + 1) (by omega)).trans hfc_12
          have h98___2___jf_14 : g_14 (98 + 2 * jf) = .inr (7, [.ref (ad (98 + 2 * jf + 1)), .int (nI (Vl jf))]) := (f_14 (98 + 2 * jf) (by omega)).trans hfc_13
          have hfam_VO_14 : (∀ j : Nat, j < 4 → g_14 (98 + 2 * j) = .inr (7, [.ref (ad (98 + 2 * j + 1)), .int (nI (Vl j))])) := fun j hj => (f_14 (98 + 2 * j) (by omega)).trans (hVo j hj)
          have hfam_VB_14 : (∀ j : Nat, j < 4 → g_14 (98 + 2 * j + 1) = .inl (cy 1, 16, .inl (fun x9 => nI ((VV j) x9)))) := fun j hj => (f_14 (98 + 2 * j + 1) (by omega)).trans (hVb j hj)
          have hfr_14 : ∀ j : Nat, (j < 54 + 2 ∨ 54 + 21 ≤ j) → g_14 j = g j := fun j n0 => (f_14 j n0).trans (hfr j )
          refine lv_iload_n hx hb dX9_shared_47 rfl (lv_at hl 3 rfl) ?_
          refine lv_bipush (v := (-4)) hx hb dX9_shared_48 (by decide) ?_
          refine lv_icmp_ne (tgt := 64) hx hb dX9_shared_50 (by decide) (fun c_50 => ?_) (fun c_50 => ?_)
          · skip
            exact absurd c_23 c_50
          · skip
            refine lv_aload_n hx hb dX9_shared_53 rfl (lv_at hl 0 rfl) ?_
            refine mg S hK hP (by omega) h0_14 fd_X9_66 rfl dX9_shared_54 ?_
            refine mg S hK hP (by omega) h54_14 fd_X9_269 rfl dX9_shared_57 ?_
            refine mg S hK hP (by omega) h54___19_14 fd_X9_258 rfl dX9_shared_60 ?_
            exact rMi S hr hlk hP hS ⟨Lr_14, (by rw [if_pos hJ, if_pos c_23, nI_clamp (by omega), nI_clamp (by omega)]), hLrb_14, (by rw [if_pos hJ, nI_clamp (by omega), nI_clamp (by omega)]; exact h54___19_14), (by rw [if_pos hJ, nI_clamp (by omega), nI_clamp (by omega)]; exact h54___20_14), hfam_R_14, (fun j n0 => hfr_14 j (by omega))⟩ dX9_shared_63
        · skip
          have hJ : ¬ (isI (nI i) vc ∧ isI (nI jf) vc ∧ (¬ z0 < 0 ∨ z0 = -4)) := fun q => q.2.2.elim (fun q => q (Int32.not_le.mp c_17)) c_23
          refine lv_iconst (v := (-1)) hx hb dX9_shared_26 (by decide) ?_
          exact rMi S hr hlk hP hS ⟨Lm, (if_neg hJ).symm, hLmb, (by rw [if_neg hJ]; exact hvr), (by rw [if_neg hJ]; exact hvvr), hLm, (fun j n0 => hfr j )⟩ dX9_shared_27


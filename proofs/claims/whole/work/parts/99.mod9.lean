set_option maxHeartbeats 4000000 in
set_option maxRecDepth 100000 in
theorem c_X10_village (l : Launch) (D : va_G) (cy : Nat → ClassId) (ad : Nat → Nat) (N : Nat) (g : Nat → va_E) (hinj : ∀ i j : Nat, i < N → j < N → ad i = ad j → i = j) (hN : 145 ≤ N) (n : Nat) (fa : Nat) (he : Nat) (ov : Nat) (un : Nat) (la : Int32) (bo : Int32) (tp : Nat) (ft : Int32) (wr0 : Nat) (wa : Nat) (at0 : Nat) (sp : Nat) (tk : Nat) (vl : Int32) (fi : Nat) (nm : Nat) (dp : Nat) (wy : Int32) (st : Int32) (aP : Nat) (aF : Nat) (aH : Nat) (aO : Nat) (ps : Nat) (mn : Nat) (go : Int32) (vi : Nat) (hM : g 114 = mob ad (nI (n)) (nI (fa)) (nI (he)) (lN ov) (nI (un)) la bo (nI (tp)) ft (nI (wr0)) (nI (wa)) (nI (at0)) (nI (sp)) (nI (tk)) vl (nI (fi)) (nI (nm)) (nI (dp)) wy st (nI (aP)) (nI (aF)) (nI (aH)) (lN aO) (nI (ps)) (nI (mn)) go (nI (vi))) (DM : Nat → Nat) (hDM : g 139 = .inl (cy 1, 4, .inl (fun x9 => nI (DM x9)))) (DA : Nat → Nat) (hDA : g 140 = .inl (cy 1, 64, .inl (fun x9 => nI (DA x9)))) (Vl : Nat → Nat) (VV : Nat → Nat → Nat) (hvi : vi ≤ 4) (hVR : VR vi fi DM DA Vl VV) : Met l yX10_village (WS yX10_village cX10_village 1 (some .int)) (rmF 0 0) (PP [.ref (ad 114)] D cy ad N g) (QI (fun r g1 => ∃ (DM2 : Nat → Nat), (r = if vi < 4 then nI vi else -3) ∧ (VR (if vi < 4 then vi + 1 else vi) fi DM2 DA Vl VV) ∧ g1 114 = mob ad (nI (n)) (nI (fa)) (nI (he)) (lN ov) (nI (un)) la bo (nI (tp)) ft (nI (wr0)) (nI (wa)) (nI (at0)) (nI (sp)) (nI (tk)) vl (nI (fi)) (nI (nm)) (nI (dp)) wy st (nI (aP)) (nI (aF)) (nI (aH)) (lN aO) (nI (ps)) (nI (mn)) go (nI (if vi < 4 then vi + 1 else vi)) ∧ g1 139 = .inl (cy 1, 4, .inl (fun x9 => nI (DM2 x9))) ∧ (∀ j, j ≠ 114 → j ≠ 139 → g1 j = g j)) D ad N) 0 0 (AA ad N) := by
  refine mentry (by decide) (Nat.le_of_ble_eq_true rfl) (fun p e s m below meth c ls S hr hlk hnm hP hK hl => ?_)
  have S : CallFix p m c cX10_village 1 s _ wsL_law RX10 := S
  have hx := S.1
  have hb := S.2.1
  have hl : lv_has ls 1 [(0, .ref (ad 114))] := hl
  have hI : MD (AA ad N) ad N := MD.in hinj
  have hS : va_S (AA ad N) s.heap s.heap [] := va_S.rf
  have hfr : ∀ j : Nat, g j = g j := fun _ => rfl
  refine lv_aload_n hx hb dX10_village_0 rfl (lv_at hl 0 rfl) ?_
  refine mg S hK hP (by omega) hM fd_X10_360 rfl dX10_village_1 ?_
  refine lv_iconst (v := nI (4)) hx hb dX10_village_4 (by decide) ?_
  refine lv_icmp_ne (tgt := 11) hx hb dX10_village_5 (by decide) (fun c_5 => ?_) (fun c_5 => ?_)
  · skip
    have c_5 := (not_congr (nI_eq (by omega) (by omega))).mp c_5
    have h4 : vi < 4 := by omega
    refine lv_aload_n hx hb dX10_village_11 rfl (lv_at hl 0 rfl) ?_
    refine mg S hK hP (by omega) hM fd_X10_93 rfl dX10_village_12 ?_
    refine lv_aload_n hx hb dX10_village_15 rfl (lv_at hl 0 rfl) ?_
    refine mg S hK hP (by omega) hM fd_X10_360 rfl dX10_village_16 ?_
    refine lv_iconst (v := nI (0)) hx hb dX10_village_19 (by decide) ?_
    refine mias S hK hP hI hS (by omega) hDM (vp_in_nI (by omega) (by omega)) dX10_village_20 (fun g_1 H locs eg_1 hP hS => ?_)
    have h139_1 : g_1 139 = .inl (cy 1, 4, .inl (fun x9 => nI ((va_up DM vi 0) x9))) := by rw [eg_1, va_up_self]; exact (arrN_up (by omega))
    have h114_1 : g_1 114 = mob ad (nI (n)) (nI (fa)) (nI (he)) (lN ov) (nI (un)) la bo (nI (tp)) ft (nI (wr0)) (nI (wa)) (nI (at0)) (nI (sp)) (nI (tk)) vl (nI (fi)) (nI (nm)) (nI (dp)) wy st (nI (aP)) (nI (aF)) (nI (aH)) (lN aO) (nI (ps)) (nI (mn)) go (nI (vi)) := ((congrFun eg_1 _).trans (va_up_ne _ _ (by omega))).trans hM
    have h140_1 : g_1 140 = .inl (cy 1, 64, .inl (fun x9 => nI (DA x9))) := ((congrFun eg_1 _).trans (va_up_ne _ _ (by omega))).trans hDA
    have hfr_1 : ∀ j : Nat, j ≠ 139 → g_1 j = g j := fun j n0 => ((congrFun eg_1 _).trans (va_up_ne _ _ n0)).trans (hfr j )
    refine lv_aload_n hx hb dX10_village_21 rfl (lv_at hl 0 rfl) ?_
    refine lv_dup hx hb dX10_village_22 rfl ?_
    refine mg S hK hP (by omega) h114_1 fd_X10_360 rfl dX10_village_23 ?_
    refine lv_iconst (v := nI (1)) hx hb dX10_village_26 (by decide) ?_
    refine lv_iadd hx hb dX10_village_27 ?_
    refine tpi (nI_add vi 1) ?_
    refine mp S hK hP hI hS (by omega) h114_1 fd_X10_360 rfl rfl (Nat.le_of_ble_eq_true rfl) dX10_village_28 (fun g_2 H locs eg_2 hP hS => ?_)
    have h114_2 : g_2 114 = mob ad (nI (n)) (nI (fa)) (nI (he)) (lN ov) (nI (un)) la bo (nI (tp)) ft (nI (wr0)) (nI (wa)) (nI (at0)) (nI (sp)) (nI (tk)) vl (nI (fi)) (nI (nm)) (nI (dp)) wy st (nI (aP)) (nI (aF)) (nI (aH)) (lN aO) (nI (ps)) (nI (mn)) go (nI (vi + 1)) := by rw [eg_2, va_up_self]; exact rfl
    have h139_2 : g_2 139 = .inl (cy 1, 4, .inl (fun x9 => nI ((va_up DM vi 0) x9))) := ((congrFun eg_2 _).trans (va_up_ne _ _ (by omega))).trans h139_1
    have h140_2 : g_2 140 = .inl (cy 1, 64, .inl (fun x9 => nI (DA x9))) := ((congrFun eg_2 _).trans (va_up_ne _ _ (by omega))).trans h140_1
    have hfr_2 : ∀ j : Nat, j ≠ 139 → j ≠ 114 → g_2 j = g j := fun j n0 n1 => ((congrFun eg_2 _).trans (va_up_ne _ _ n1)).trans (hfr_1 j n0)
    refine lv_aload_n hx hb dX10_village_31 rfl (lv_at hl 0 rfl) ?_
    refine mg S hK hP (by omega) h114_2 fd_X10_360 rfl dX10_village_32 ?_
    refine lv_iconst (v := nI (1)) hx hb dX10_village_35 (by decide) ?_
    refine lv_isub hx hb dX10_village_36 ?_
    refine tpi (pk_sub (a := vi + 1) (b := 1) (by omega)) ?_
    refine tpi (by rw [Nat.add_sub_cancel]) ?_
    exact rMi S hr hlk hP hS ⟨_, (if_pos h4).symm, (by rw [if_pos h4]; exact VR_new hVR h4), (by rw [if_pos h4]; exact h114_2), h139_2, (fun j n0 n1 => hfr_2 j (by omega) (by omega))⟩ dX10_village_37
  · skip
    have c_5 := (nI_eq (by omega) (by omega)).mp c_5
    have h4 : ¬ vi < 4 := by omega
    refine lv_bipush (v := (-3)) hx hb dX10_village_8 (by decide) ?_
    exact rMi S hr hlk hP hS ⟨_, (if_neg h4).symm, (by rw [if_neg h4]; exact hVR), (by rw [if_neg h4]; exact hM), hDM, (fun j n0 n1 => hfr j )⟩ dX10_village_10
set_option maxHeartbeats 4000000 in
set_option maxRecDepth 100000 in
theorem c_X10_add (l : Launch) (D : va_G) (cy : Nat → ClassId) (ad : Nat → Nat) (N : Nat) (g : Nat → va_E) (hinj : ∀ i j : Nat, i < N → j < N → ad i = ad j → i = j) (hN : 145 ≤ N) (n : Nat) (fa : Nat) (he : Nat) (ov : Nat) (un : Nat) (la : Int32) (bo : Int32) (tp : Nat) (ft : Int32) (wr0 : Nat) (wa : Nat) (at0 : Nat) (sp : Nat) (tk : Nat) (vl : Int32) (fi : Nat) (nm : Nat) (dp : Nat) (wy : Int32) (st : Int32) (aP : Nat) (aF : Nat) (aH : Nat) (aO : Nat) (ps : Nat) (mn : Nat) (go : Int32) (vi : Nat) (hM : g 114 = mob ad (nI (n)) (nI (fa)) (nI (he)) (lN ov) (nI (un)) la bo (nI (tp)) ft (nI (wr0)) (nI (wa)) (nI (at0)) (nI (sp)) (nI (tk)) vl (nI (fi)) (nI (nm)) (nI (dp)) wy st (nI (aP)) (nI (aF)) (nI (aH)) (lN aO) (nI (ps)) (nI (mn)) go (nI (vi))) (DM : Nat → Nat) (hDM : g 139 = .inl (cy 1, 4, .inl (fun x9 => nI (DM x9)))) (DA : Nat → Nat) (hDA : g 140 = .inl (cy 1, 64, .inl (fun x9 => nI (DA x9)))) (Vl : Nat → Nat) (VV : Nat → Nat → Nat) (hvi : vi ≤ 4) (hVR : VR vi fi DM DA Vl VV) (hfi : fi ≤ 8) (x0 : Int32) (y0 : Int32) : Met l yX10_add (WS yX10_add cX10_add 3 (some .int)) (rmF 2 46) (PP [.ref (ad 114), .int x0, .int y0] D cy ad N g) (QI (fun r g1 => ∃ (DM2 : Nat → Nat), ∃ (DA2 : Nat → Nat), (r = if (isI x0 vi ∧ isI y0 fi) then (if Vl x0.toNatClampNeg < 16 then nI (Vl x0.toNatClampNeg + 1) else -3) else -1) ∧ (VR vi fi DM2 DA2 (if (isI x0 vi ∧ isI y0 fi) then va_up Vl x0.toNatClampNeg (apVL (Vl x0.toNatClampNeg)) else Vl) (if (isI x0 vi ∧ isI y0 fi) then va_up VV x0.toNatClampNeg (apV (VV x0.toNatClampNeg) (Vl x0.toNatClampNeg) y0.toNatClampNeg) else VV)) ∧ g1 114 = mob ad (nI (n)) (nI (fa)) (nI (he)) (lN ov) (nI (un)) la bo (nI (tp)) ft (nI (wr0)) (nI (wa)) (nI (at0)) (nI (sp)) (nI (tk)) vl (nI (fi)) (nI (nm)) (nI (dp)) wy st (nI (aP)) (nI (aF)) (nI (aH)) (lN aO) (nI (ps)) (nI (mn)) go (nI (vi)) ∧ g1 139 = .inl (cy 1, 4, .inl (fun x9 => nI (DM2 x9))) ∧ g1 140 = .inl (cy 1, 64, .inl (fun x9 => nI (DA2 x9))) ∧ (∀ j, j ≠ 114 → j ≠ 139 → j ≠ 140 → g1 j = g j)) D ad N) 0 0 (AA ad N) := by
  refine mentry (by decide) (Nat.le_of_ble_eq_true rfl) (fun p e s m below meth c ls S hr hlk hnm hP hK hl => ?_)
  have S : CallFix p m c cX10_add 3 s _ wsL_law RX10 := S
  have hx := S.1
  have hb := S.2.1
  have hl : lv_has ls 3 [(0, .ref (ad 114)), (1, .int x0), (2, .int y0)] := hl
  have hI : MD (AA ad N) ad N := MD.in hinj
  have hS : va_S (AA ad N) s.heap s.heap [] := va_S.rf
  have hfr : ∀ j : Nat, g j = g j := fun _ => rfl
  refine lv_aload_n hx hb dX10_add_0 rfl (lv_at hl 0 rfl) ?_
  refine lv_iload_n hx hb dX10_add_1 rfl (lv_at hl 1 rfl) ?_
  refine kVi (As := [.int x0]) (rest := []) S hK hP (c_X10_isVillage l D cy ad N g (by omega) n fa he ov un la bo tp ft wr0 wa at0 sp tk vl fi nm dp wy st aP aF aH aO ps mn go vi hM hvi x0) cv_X10_363 (by omega) hM ⟨_, _, rfl⟩ ⟨rfl, rfl⟩ rfl hl.1 rfl (Nat.le_of_ble_eq_true rfl) ⟨Nat.zero_le _, Nat.zero_le _⟩ dX10_add_2 (fun r_2 q_2 => ?_)
  subst q_2
  refine lv_if_eq (tgt := 16) hx hb dX10_add_5 (by decide) (fun c_5 => ?_) (fun c_5 => ?_)
  · skip
    have c_5 := bz_eq.mp c_5
    have hC : ¬ (isI x0 vi ∧ isI y0 fi) := fun q => c_5 q.1
    refine lv_iconst (v := (-1)) hx hb dX10_add_16 (by decide) ?_
    exact rMi S hr hlk hP hS ⟨_, _, (if_neg hC).symm, (by simp only [if_neg hC]; exact hVR), hM, hDM, hDA, (fun j n0 n1 n2 => hfr j )⟩ dX10_add_17
  · skip
    have c_5 := bz_ne.mp c_5
    obtain ⟨k0, hk0b, rfl⟩ := isI_nat (by omega) c_5
    have hJ := c_5
    have hk031 : k0 < 2 ^ 31 := by omega
    have hq := hVR.1 k0 hk0b
    refine lv_aload_n hx hb dX10_add_8 rfl (lv_at hl 0 rfl) ?_
    refine lv_iload_n hx hb dX10_add_9 rfl (lv_at hl 2 rfl) ?_
    refine kVi (As := [.int y0]) (rest := []) S hK hP (c_X10_isFigure l D cy ad N g (by omega) n fa he ov un la bo tp ft wr0 wa at0 sp tk vl fi nm dp wy st aP aF aH aO ps mn go vi hM hfi y0) cv_X10_286 (by omega) hM ⟨_, _, rfl⟩ ⟨rfl, rfl⟩ rfl hl.1 rfl (Nat.le_of_ble_eq_true rfl) ⟨Nat.zero_le _, Nat.zero_le _⟩ dX10_add_10 (fun r_10 q_10 => ?_)
    subst q_10
    refine lv_if_ne (tgt := 18) hx hb dX10_add_13 (by decide) (fun c_13 => ?_) (fun c_13 => ?_)
    · skip
      have c_13 := bz_ne.mp c_13
      have hJ0 := hJ
      obtain ⟨f0, hf0b, rfl⟩ := isI_nat (by omega) c_13
      have hJ := c_13
      have hf031 : f0 < 2 ^ 31 := by omega
      have hC : isI (nI k0) vi ∧ isI (nI f0) fi := ⟨hJ0, hJ⟩
      refine lv_aload_n hx hb dX10_add_18 rfl (lv_at hl 0 rfl) ?_
      refine mg S hK hP (by omega) hM fd_X10_93 rfl dX10_add_19 ?_
      refine lv_iload_n hx hb dX10_add_22 rfl (lv_at hl 1 rfl) ?_
      refine mial S hK hP (by omega) hDM (vp_in_nI (by omega) (by omega)) dX10_add_23 ?_
      refine tpi (congrArg ((fun x9 => nI (DM x9))) (nI_clamp (by omega))) ?_
      refine tpi (congrArg nI hq.1) ?_
      refine lv_bipush (v := nI (16)) hx hb dX10_add_24 (by decide) ?_
      refine lv_icmp_ne (tgt := 32) hx hb dX10_add_26 (by decide) (fun c_26 => ?_) (fun c_26 => ?_)
      · skip
        have c_26 := (not_congr (nI_eq (by omega) (by omega))).mp c_26
        refine lv_aload_n hx hb dX10_add_32 rfl (lv_at hl 0 rfl) ?_
        refine mg S hK hP (by omega) hM fd_X10_96 rfl dX10_add_33 ?_
        refine lv_bipush (v := nI (16)) hx hb dX10_add_36 (by decide) ?_
        refine lv_iload_n hx hb dX10_add_38 rfl (lv_at hl 1 rfl) ?_
        refine lv_imul hx hb dX10_add_39 ?_
        refine tpi (pk_mul 16 k0) ?_
        refine lv_aload_n hx hb dX10_add_40 rfl (lv_at hl 0 rfl) ?_
        refine mg S hK hP (by omega) hM fd_X10_93 rfl dX10_add_41 ?_
        refine lv_iload_n hx hb dX10_add_44 rfl (lv_at hl 1 rfl) ?_
        refine mial S hK hP (by omega) hDM (vp_in_nI (by omega) (by omega)) dX10_add_45 ?_
        refine tpi (congrArg ((fun x9 => nI (DM x9))) (nI_clamp (by omega))) ?_
        refine tpi (congrArg nI hq.1) ?_
        refine lv_iadd hx hb dX10_add_46 ?_
        refine tpi (nI_add (16 * k0) (Vl k0)) ?_
        refine lv_iload_n hx hb dX10_add_47 rfl (lv_at hl 2 rfl) ?_
        refine mias S hK hP hI hS (by omega) hDA (vp_in_nI (by omega) (by omega)) dX10_add_48 (fun g_1 H locs eg_1 hP hS => ?_)
        have h140_1 : g_1 140 = .inl (cy 1, 64, .inl (fun x9 => nI ((va_up DA ((16 * k0) + Vl k0) f0) x9))) := by rw [eg_1, va_up_self]; exact (arrN_up (by omega))
        have h114_1 : g_1 114 = mob ad (nI (n)) (nI (fa)) (nI (he)) (lN ov) (nI (un)) la bo (nI (tp)) ft (nI (wr0)) (nI (wa)) (nI (at0)) (nI (sp)) (nI (tk)) vl (nI (fi)) (nI (nm)) (nI (dp)) wy st (nI (aP)) (nI (aF)) (nI (aH)) (lN aO) (nI (ps)) (nI (mn)) go (nI (vi)) := ((congrFun eg_1 _).trans (va_up_ne _ _ (by omega))).trans hM
        have h139_1 : g_1 139 = .inl (cy 1, 4, .inl (fun x9 => nI (DM x9))) := ((congrFun eg_1 _).trans (va_up_ne _ _ (by omega))).trans hDM
        have hfr_1 : ∀ j : Nat, j ≠ 140 → g_1 j = g j := fun j n0 => ((congrFun eg_1 _).trans (va_up_ne _ _ n0)).trans (hfr j )
        refine lv_aload_n hx hb dX10_add_49 rfl (lv_at hl 0 rfl) ?_
        refine mg S hK hP (by omega) h114_1 fd_X10_93 rfl dX10_add_50 ?_
        refine lv_iload_n hx hb dX10_add_53 rfl (lv_at hl 1 rfl) ?_
        refine lv_dup2_11 hx hb dX10_add_54 rfl rfl ?_
        refine mial S hK hP (by omega) h139_1 (vp_in_nI (by omega) (by omega)) dX10_add_55 ?_
        refine tpi (congrArg ((fun x9 => nI (DM x9))) (nI_clamp (by omega))) ?_
        refine tpi (congrArg nI hq.1) ?_
        refine lv_iconst (v := nI (1)) hx hb dX10_add_56 (by decide) ?_
        refine lv_iadd hx hb dX10_add_57 ?_
        refine tpi (nI_add (Vl k0) 1) ?_
        refine mias S hK hP hI hS (by omega) h139_1 (vp_in_nI (by omega) (by omega)) dX10_add_58 (fun g_2 H locs eg_2 hP hS => ?_)
        have h139_2 : g_2 139 = .inl (cy 1, 4, .inl (fun x9 => nI ((va_up DM k0 (Vl k0 + 1)) x9))) := by rw [eg_2, va_up_self]; exact (arrN_up (by omega))
        have h114_2 : g_2 114 = mob ad (nI (n)) (nI (fa)) (nI (he)) (lN ov) (nI (un)) la bo (nI (tp)) ft (nI (wr0)) (nI (wa)) (nI (at0)) (nI (sp)) (nI (tk)) vl (nI (fi)) (nI (nm)) (nI (dp)) wy st (nI (aP)) (nI (aF)) (nI (aH)) (lN aO) (nI (ps)) (nI (mn)) go (nI (vi)) := ((congrFun eg_2 _).trans (va_up_ne _ _ (by omega))).trans h114_1
        have h140_2 : g_2 140 = .inl (cy 1, 64, .inl (fun x9 => nI ((va_up DA ((16 * k0) + Vl k0) f0) x9))) := ((congrFun eg_2 _).trans (va_up_ne _ _ (by omega))).trans h140_1
        have hfr_2 : ∀ j : Nat, j ≠ 140 → j ≠ 139 → g_2 j = g j := fun j n0 n1 => ((congrFun eg_2 _).trans (va_up_ne _ _ n1)).trans (hfr_1 j n0)
        refine lv_aload_n hx hb dX10_add_59 rfl (lv_at hl 0 rfl) ?_
        refine mg S hK hP (by omega) h114_2 fd_X10_93 rfl dX10_add_60 ?_
        refine lv_iload_n hx hb dX10_add_63 rfl (lv_at hl 1 rfl) ?_
        refine mial S hK hP (by omega) h139_2 (vp_in_nI (by omega) (by omega)) dX10_add_64 ?_
        refine tpi (congrArg ((fun x9 => nI ((va_up DM k0 (Vl k0 + 1)) x9))) (nI_clamp (by omega))) ?_
        refine tpi (congrArg nI (va_up_self _ _ _)) ?_
        exact rMi S hr hlk hP hS ⟨_, _, (by simp only [if_pos hC, nI_clamp hk031, nI_clamp hf031]; exact (if_pos (by omega)).symm), (by simp only [if_pos hC, nI_clamp hk031, nI_clamp hf031]; exact VR_add hVR hk0b hvi hf0b (by omega)), h114_2, h139_2, h140_2, (fun j n0 n1 n2 => hfr_2 j (by omega) (by omega))⟩ dX10_add_65
      · skip
        have c_26 := (nI_eq (by omega) (by omega)).mp c_26
        refine lv_bipush (v := (-3)) hx hb dX10_add_29 (by decide) ?_
        exact rMi S hr hlk hP hS ⟨_, _, (by simp only [if_pos hC, nI_clamp hk031, nI_clamp hf031]; exact (if_neg (by omega)).symm), (by simp only [if_pos hC, nI_clamp hk031, nI_clamp hf031]; exact VR_full hVR (by omega)), hM, hDM, hDA, (fun j n0 n1 n2 => hfr j )⟩ dX10_add_31
    · skip
      have c_13 := bz_eq.mp c_13
      have hC : ¬ (isI (nI k0) vi ∧ isI y0 fi) := fun q => c_13 q.2
      refine lv_iconst (v := (-1)) hx hb dX10_add_16 (by decide) ?_
      exact rMi S hr hlk hP hS ⟨_, _, (if_neg hC).symm, (by simp only [if_neg hC]; exact hVR), hM, hDM, hDA, (fun j n0 n1 n2 => hfr j )⟩ dX10_add_17
set_option maxHeartbeats 4000000 in
set_option maxRecDepth 100000 in
theorem c_X10_danceOf (l : Launch) (D : va_G) (cy : Nat → ClassId) (ad : Nat → Nat) (N : Nat) (g : Nat → va_E) (hN : 145 ≤ N) (n : Nat) (fa : Nat) (he : Nat) (ov : Nat) (un : Nat) (la : Int32) (bo : Int32) (tp : Nat) (ft : Int32) (wr0 : Nat) (wa : Nat) (at0 : Nat) (sp : Nat) (tk : Nat) (vl : Int32) (fi : Nat) (nm : Nat) (dp : Nat) (wy : Int32) (st : Int32) (aP : Nat) (aF : Nat) (aH : Nat) (aO : Nat) (ps : Nat) (mn : Nat) (go : Int32) (vi : Nat) (hM : g 114 = mob ad (nI (n)) (nI (fa)) (nI (he)) (lN ov) (nI (un)) la bo (nI (tp)) ft (nI (wr0)) (nI (wa)) (nI (at0)) (nI (sp)) (nI (tk)) vl (nI (fi)) (nI (nm)) (nI (dp)) wy st (nI (aP)) (nI (aF)) (nI (aH)) (lN aO) (nI (ps)) (nI (mn)) go (nI (vi))) (DM : Nat → Nat) (hDM : g 139 = .inl (cy 1, 4, .inl (fun x9 => nI (DM x9)))) (DA : Nat → Nat) (hDA : g 140 = .inl (cy 1, 64, .inl (fun x9 => nI (DA x9)))) (Vl : Nat → Nat) (VV : Nat → Nat → Nat) (hvi : vi ≤ 4) (hVR : VR vi fi DM DA Vl VV) (BY : Nat → Nat) (hBY : g 122 = .inl (cy 1, 8, .inl (fun x9 => nI (BY x9)))) (BS : Nat → Nat) (hBS : g 123 = .inl (cy 1, 1600, .inl (fun x9 => nI (BS x9)))) (BN : Nat → Nat) (hBN : g 124 = .inl (cy 1, 1600, .inl (fun x9 => nI (BN x9)))) (Fl : Nat → Nat) (FB : Nat → Nat → Nat) (hfi : fi ≤ 8) (hFR : FR fi BY BS BN Fl FB) (x0 : Int32) (what : Int32) : Met l yX10_danceOf (WS yX10_danceOf cX10_danceOf 5 (some .int)) (rmF 2 46) (PP [.ref (ad 114), .int x0, .int what] D cy ad N g) (vp_Si (fun r => r = dnA Vl VV Fl fi vi x0 what)) 0 0 (fun _ => False) := by
  refine mentry (by decide) (Nat.le_of_ble_eq_true rfl) (fun p e s m below meth c ls S hr hlk hnm hP hK hl => ?_)
  have S : CallFix p m c cX10_danceOf 5 s _ wsL_law RX10 := S
  have hx := S.1
  have hb := S.2.1
  have hl : lv_has ls 5 [(0, .ref (ad 114)), (1, .int x0), (2, .int what)] := hl
  refine lv_aload_n hx hb dX10_danceOf_0 rfl (lv_at hl 0 rfl) ?_
  refine lv_iload_n hx hb dX10_danceOf_1 rfl (lv_at hl 1 rfl) ?_
  refine kVi (As := [.int x0]) (rest := []) S hK hP (c_X10_isVillage l D cy ad N g (by omega) n fa he ov un la bo tp ft wr0 wa at0 sp tk vl fi nm dp wy st aP aF aH aO ps mn go vi hM hvi x0) cv_X10_363 (by omega) hM ⟨_, _, rfl⟩ ⟨rfl, rfl⟩ rfl hl.1 rfl (Nat.le_of_ble_eq_true rfl) ⟨Nat.zero_le _, Nat.zero_le _⟩ dX10_danceOf_2 (fun r_2 q_2 => ?_)
  subst q_2
  refine lv_if_ne (tgt := 10) hx hb dX10_danceOf_5 (by decide) (fun c_5 => ?_) (fun c_5 => ?_)
  · skip
    have c_5 := bz_ne.mp c_5
    obtain ⟨k0, hk0b, rfl⟩ := isI_nat (by omega) c_5
    have hJ := c_5
    have hk031 : k0 < 2 ^ 31 := by omega
    have hq := hVR.1 k0 hk0b
    refine lv_iconst (v := nI (0)) hx hb dX10_danceOf_10 (by decide) ?_
    refine lv_istore_n (lv' := [(3, .int (nI (0))), (0, .ref (ad 114)), (1, .int (nI (k0))), (2, .int what)]) hx hb dX10_danceOf_11 rfl hl (by decide) rfl (fun ls hl => ?_)
    refine lv_iconst (v := nI (0)) hx hb dX10_danceOf_12 (by decide) ?_
    refine lv_istore (lv' := [(4, .int (nI (0))), (3, .int (nI (0))), (0, .ref (ad 114)), (1, .int (nI (k0))), (2, .int what)]) hx hb dX10_danceOf_13 hl (by decide) rfl (fun ls hl => ?_)
    have L15 : ∀ (fu : Nat) (j v : Nat), (j ≤ Vl k0) → (v = bts Fl fi (VV k0) j) → (v ≤ 200 * j) → (Vl k0 - j) < fu → ∀ (ls : Array Slot), lv_has ls 5 [(4, .int (nI (j))), (3, .int (nI (v))), (0, .ref (ad 114)), (1, .int (nI (k0))), (2, .int what)] → W p l e (rmF 2 46) s m [.ref (ad 114), .int (nI k0), .int what].toArray below meth c s.heap [] 0 0 (MQ below (vp_Si (fun r => r = dnA Vl VV Fl fi vi (nI k0) what)) [.ref (ad 114), .int (nI k0), .int what].toArray s 0 0 (fun _ => False)) (F0 m 15 ls []) := by
      intro fu
      induction fu with
      | zero => intro j v hj hv hvb hms ls hl; exact absurd hms (Nat.not_lt_zero _)
      | succ fu ih15 =>
        intro j v hj hv hvb hms ls hl
        refine lv_iload hx hb dX10_danceOf_15 (lv_at hl 0 rfl) ?_
        refine lv_aload_n hx hb dX10_danceOf_17 rfl (lv_at hl 2 rfl) ?_
        refine mg S hK hP (by omega) hM fd_X10_93 rfl dX10_danceOf_18 ?_
        refine lv_iload_n hx hb dX10_danceOf_21 rfl (lv_at hl 3 rfl) ?_
        refine mial S hK hP (by omega) hDM (vp_in_nI (by omega) (by omega)) dX10_danceOf_22 ?_
        refine tpi (congrArg ((fun x9 => nI (DM x9))) (nI_clamp (by omega))) ?_
        refine tpi (congrArg nI hq.1) ?_
        refine lv_icmp_ge (tgt := 52) hx hb dX10_danceOf_23 (by decide) (fun c_23 => ?_) (fun c_23 => ?_)
        · skip
          have c_23 := (nI_leI (by omega) (by omega)).mp c_23
          refine lv_iload_n hx hb dX10_danceOf_52 rfl (lv_at hl 4 rfl) ?_
          refine lv_if_ne (tgt := 65) hx hb dX10_danceOf_53 (by decide) (fun c_53 => ?_) (fun c_53 => ?_)
          · skip
            refine lv_iload_n hx hb dX10_danceOf_65 rfl (lv_at hl 4 rfl) ?_
            refine lv_iconst (v := nI (1)) hx hb dX10_danceOf_66 (by decide) ?_
            refine lv_icmp_ne (tgt := 74) hx hb dX10_danceOf_67 (by decide) (fun c_67 => ?_) (fun c_67 => ?_)
            · skip
              refine lv_iload_n hx hb dX10_danceOf_74 rfl (lv_at hl 4 rfl) ?_
              refine lv_i2l hx hb dX10_danceOf_75 rfl ?_
              refine lv_ldc2 hx hb S.2.2.2.1 (S.2.2.2.2 _ m_X10_289) dX10_danceOf_76 ?_
              refine tpl (show (10 : Int64) = lN 10 from rfl) ?_
              refine lv_bipush (v := nI (9)) hx hb dX10_danceOf_79 (by decide) ?_
              refine lv_aload_n hx hb dX10_danceOf_81 rfl (lv_at hl 2 rfl) ?_
              refine mg S hK hP (by omega) hM fd_X10_93 rfl dX10_danceOf_82 ?_
              refine lv_iload_n hx hb dX10_danceOf_85 rfl (lv_at hl 3 rfl) ?_
              refine mial S hK hP (by omega) hDM (vp_in_nI (by omega) (by omega)) dX10_danceOf_86 ?_
              refine tpi (congrArg ((fun x9 => nI (DM x9))) (nI_clamp (by omega))) ?_
              refine tpi (congrArg nI hq.1) ?_
              refine lv_iadd hx hb dX10_danceOf_87 ?_
              refine tpi (nI_add 9 (Vl k0)) ?_
              refine lv_i2l hx hb dX10_danceOf_88 rfl ?_
              refine tpl (nI_l (by omega)) ?_
              refine kSi (As := [.long what.toInt64, .long (lN 10), .long (lN (9 + Vl k0))]) (rest := []) S hK hP (c_X10_in l D cy ad N g what.toInt64 (lN 10) (lN (9 + Vl k0))) cs_X10_115 ⟨rfl, rfl⟩ rfl hl.1 rfl (Nat.le_of_ble_eq_true rfl) ⟨Nat.zero_le _, Nat.zero_le _⟩ dX10_danceOf_89 (fun r_89 q_89 => ?_)
              subst q_89
              refine tpi (ifC (in_45 (by omega) (by omega))) ?_
              refine lv_if_eq (tgt := 112) hx hb dX10_danceOf_92 (by decide) (fun c_92 => ?_) (fun c_92 => ?_)
              · skip
                have c_92 := bz_eq.mp c_92
                refine lv_iconst (v := (-1)) hx hb dX10_danceOf_112 (by decide) ?_
                have hjE : j = Vl k0 := by omega
                exact rSi S hr hlk (dn_out hvi hk0b c_53 c_67 c_92 hq.2.1).symm dX10_danceOf_113
              · skip
                have c_92 := bz_ne.mp c_92
                obtain ⟨jf, hjf, rfl⟩ := rg_n (a := 9) (by omega) c_92
                refine lv_aload_n hx hb dX10_danceOf_95 rfl (lv_at hl 2 rfl) ?_
                refine mg S hK hP (by omega) hM fd_X10_96 rfl dX10_danceOf_96 ?_
                refine lv_bipush (v := nI (16)) hx hb dX10_danceOf_99 (by decide) ?_
                refine lv_iload_n hx hb dX10_danceOf_101 rfl (lv_at hl 3 rfl) ?_
                refine lv_imul hx hb dX10_danceOf_102 ?_
                refine tpi (pk_mul 16 k0) ?_
                refine lv_iload_n hx hb dX10_danceOf_103 rfl (lv_at hl 4 rfl) ?_
                refine lv_iadd hx hb dX10_danceOf_104 ?_
                refine tpi (nI_add (16 * k0) ((jf + 10))) ?_
                refine lv_bipush (v := nI (10)) hx hb dX10_danceOf_105 (by decide) ?_
                refine lv_isub hx hb dX10_danceOf_107 ?_
                refine tpi (pk_sub (a := (16 * k0) + ((jf + 10))) (b := 10) (by omega)) ?_
                refine tpi (congrArg nI (show 16 * k0 + (jf + 10) - 10 = 16 * k0 + jf by omega)) ?_
                refine mial S hK hP (by omega) hDA (vp_in_nI (by omega) (by omega)) dX10_danceOf_108 ?_
                refine tpi (congrArg ((fun x9 => nI (DA x9))) (nI_clamp (by omega))) ?_
                refine tpi (congrArg nI (hq.2.2 jf (by omega)).1) ?_
                refine lv_goto (tgt := 113) hx hb dX10_danceOf_109 (by decide) ?_
                have hjE : j = Vl k0 := by omega
                exact rSi S hr hlk (dnA_y hvi hk0b hq.2.1 (by omega)).symm dX10_danceOf_113
            · skip
              refine lv_iload_n hx hb dX10_danceOf_70 rfl (lv_at hl 1 rfl) ?_
              refine lv_goto (tgt := 113) hx hb dX10_danceOf_71 (by decide) ?_
              have hjE : j = Vl k0 := by omega
              exact rSi S hr hlk (by rw [show what = nI 1 from c_67]; rw [hv, hjE]; exact (dnA_1 hvi hk0b).symm) dX10_danceOf_113
          · skip
            refine lv_aload_n hx hb dX10_danceOf_56 rfl (lv_at hl 2 rfl) ?_
            refine mg S hK hP (by omega) hM fd_X10_93 rfl dX10_danceOf_57 ?_
            refine lv_iload_n hx hb dX10_danceOf_60 rfl (lv_at hl 3 rfl) ?_
            refine mial S hK hP (by omega) hDM (vp_in_nI (by omega) (by omega)) dX10_danceOf_61 ?_
            refine tpi (congrArg ((fun x9 => nI (DM x9))) (nI_clamp (by omega))) ?_
            refine tpi (congrArg nI hq.1) ?_
            refine lv_goto (tgt := 113) hx hb dX10_danceOf_62 (by decide) ?_
            have hjE : j = Vl k0 := by omega
            exact rSi S hr hlk (by rw [c_53]; exact (dnA_0 hvi hk0b).symm) dX10_danceOf_113
        · skip
          have c_23 := (not_congr (nI_leI (by omega) (by omega))).mp c_23
          have hqj := hq.2.2 j (by omega)
          have hFj := hFR (VV k0 j) hqj.2
          refine lv_iload_n hx hb dX10_danceOf_26 rfl (lv_at hl 1 rfl) ?_
          refine lv_aload_n hx hb dX10_danceOf_27 rfl (lv_at hl 2 rfl) ?_
          refine mg S hK hP (by omega) hM fd_X10_42 rfl dX10_danceOf_28 ?_
          refine lv_aload_n hx hb dX10_danceOf_31 rfl (lv_at hl 2 rfl) ?_
          refine mg S hK hP (by omega) hM fd_X10_96 rfl dX10_danceOf_32 ?_
          refine lv_bipush (v := nI (16)) hx hb dX10_danceOf_35 (by decide) ?_
          refine lv_iload_n hx hb dX10_danceOf_37 rfl (lv_at hl 3 rfl) ?_
          refine lv_imul hx hb dX10_danceOf_38 ?_
          refine tpi (pk_mul 16 k0) ?_
          refine lv_iload hx hb dX10_danceOf_39 (lv_at hl 0 rfl) ?_
          refine lv_iadd hx hb dX10_danceOf_41 ?_
          refine tpi (nI_add (16 * k0) j) ?_
          refine mial S hK hP (by omega) hDA (vp_in_nI (by omega) (by omega)) dX10_danceOf_42 ?_
          refine tpi (congrArg ((fun x9 => nI (DA x9))) (nI_clamp (by omega))) ?_
          refine tpi (congrArg nI hqj.1) ?_
          refine mial S hK hP (by omega) hBY (vp_in_nI (by omega) (by omega)) dX10_danceOf_43 ?_
          refine tpi (congrArg ((fun x9 => nI (BY x9))) (nI_clamp (by omega))) ?_
          refine tpi (congrArg nI hFj.1) ?_
          refine lv_iadd hx hb dX10_danceOf_44 ?_
          refine tpi (nI_add v (Fl (VV k0 j))) ?_
          refine lv_istore_n (lv' := [(3, .int (nI (v + (Fl (VV k0 j))))), (4, .int (nI (j))), (0, .ref (ad 114)), (1, .int (nI (k0))), (2, .int what)]) hx hb dX10_danceOf_45 rfl hl (by decide) rfl (fun ls hl => ?_)
          refine lv_iinc (v := nI (j + 1)) (lv' := [(4, .int (nI (j + 1))), (3, .int (nI (v + (Fl (VV k0 j))))), (0, .ref (ad 114)), (1, .int (nI (k0))), (2, .int what)]) hx hb dX10_danceOf_46 hl (k := 1) rfl (by exact nI_add j 1) (by decide) rfl (fun ls hl => ?_)
          refine lv_goto (tgt := 15) hx hb dX10_danceOf_49 (by decide) ?_
          exact ih15 (j + 1) (v + (Fl (VV k0 j))) (by omega) (by rw [hv]; exact bts_y hqj.2) (by have := hFj.2.1; omega) (by omega) _ (lv_sub hl [0, 1, 2, 3, 4] rfl)
    exact L15 ((Vl k0 - 0) + 1) 0 0 (by omega) rfl (by omega) (Nat.lt_succ_self _) _ (lv_sub hl [0, 1, 2, 3, 4] rfl)
  · skip
    have c_5 := bz_eq.mp c_5
    have hJ : ¬ isI x0 vi := c_5
    refine lv_iconst (v := (-1)) hx hb dX10_danceOf_8 (by decide) ?_
    exact rSi S hr hlk (dnA_b hJ).symm dX10_danceOf_9
set_option maxHeartbeats 4000000 in
set_option maxRecDepth 100000 in
theorem c_X10_told (l : Launch) (D : va_G) (cy : Nat → ClassId) (ad : Nat → Nat) (N : Nat) (g : Nat → va_E) (hN : 145 ≤ N) (n : Nat) (fa : Nat) (he : Nat) (ov : Nat) (un : Nat) (la : Int32) (bo : Int32) (tp : Nat) (ft : Int32) (wr0 : Nat) (wa : Nat) (at0 : Nat) (sp : Nat) (tk : Nat) (vl : Int32) (fi : Nat) (nm : Nat) (dp : Nat) (wy : Int32) (st : Int32) (aP : Nat) (aF : Nat) (aH : Nat) (aO : Nat) (ps : Nat) (mn : Nat) (go : Int32) (vi : Nat) (hM : g 114 = mob ad (nI (n)) (nI (fa)) (nI (he)) (lN ov) (nI (un)) la bo (nI (tp)) ft (nI (wr0)) (nI (wa)) (nI (at0)) (nI (sp)) (nI (tk)) vl (nI (fi)) (nI (nm)) (nI (dp)) wy st (nI (aP)) (nI (aF)) (nI (aH)) (lN aO) (nI (ps)) (nI (mn)) go (nI (vi))) (BY : Nat → Nat) (hBY : g 122 = .inl (cy 1, 8, .inl (fun x9 => nI (BY x9)))) (BS : Nat → Nat) (hBS : g 123 = .inl (cy 1, 1600, .inl (fun x9 => nI (BS x9)))) (BN : Nat → Nat) (hBN : g 124 = .inl (cy 1, 1600, .inl (fun x9 => nI (BN x9)))) (Fl : Nat → Nat) (FB : Nat → Nat → Nat) (hfi : fi ≤ 8) (hFR : FR fi BY BS BN Fl FB) (x0 : Int32) (what : Int32) : Met l yX10_told (WS yX10_told cX10_told 8 (some .int)) (rmF 2 46) (PP [.ref (ad 114), .int x0, .int what] D cy ad N g) (vp_Si (fun r => r = if isI x0 fi then tolA (FB x0.toNatClampNeg) (Fl x0.toNatClampNeg) what else -1)) 0 0 (fun _ => False) := by
  refine mentry (by decide) (Nat.le_of_ble_eq_true rfl) (fun p e s m below meth c ls S hr hlk hnm hP hK hl => ?_)
  have S : CallFix p m c cX10_told 8 s _ wsL_law RX10 := S
  have hx := S.1
  have hb := S.2.1
  have hl : lv_has ls 8 [(0, .ref (ad 114)), (1, .int x0), (2, .int what)] := hl
  refine lv_aload_n hx hb dX10_told_0 rfl (lv_at hl 0 rfl) ?_
  refine lv_iload_n hx hb dX10_told_1 rfl (lv_at hl 1 rfl) ?_
  refine kVi (As := [.int x0]) (rest := []) S hK hP (c_X10_isFigure l D cy ad N g (by omega) n fa he ov un la bo tp ft wr0 wa at0 sp tk vl fi nm dp wy st aP aF aH aO ps mn go vi hM hfi x0) cv_X10_286 (by omega) hM ⟨_, _, rfl⟩ ⟨rfl, rfl⟩ rfl hl.1 rfl (Nat.le_of_ble_eq_true rfl) ⟨Nat.zero_le _, Nat.zero_le _⟩ dX10_told_2 (fun r_2 q_2 => ?_)
  subst q_2
  refine lv_if_ne (tgt := 10) hx hb dX10_told_5 (by decide) (fun c_5 => ?_) (fun c_5 => ?_)
  · skip
    have c_5 := bz_ne.mp c_5
    obtain ⟨f0, hf0b, rfl⟩ := isI_nat (by omega) c_5
    have hJ := c_5
    have hf031 : f0 < 2 ^ 31 := by omega
    have hq := hFR f0 hf0b
    refine lv_iconst (v := nI (0)) hx hb dX10_told_10 (by decide) ?_
    refine lv_istore_n (lv' := [(3, .int (nI (0))), (0, .ref (ad 114)), (1, .int (nI (f0))), (2, .int what)]) hx hb dX10_told_11 rfl hl (by decide) rfl (fun ls hl => ?_)
    refine lv_bipush (v := (-4)) hx hb dX10_told_12 (by decide) ?_
    refine lv_istore (lv' := [(4, .int (-4)), (3, .int (nI (0))), (0, .ref (ad 114)), (1, .int (nI (f0))), (2, .int what)]) hx hb dX10_told_14 hl (by decide) rfl (fun ls hl => ?_)
    refine lv_iconst (v := nI (0)) hx hb dX10_told_16 (by decide) ?_
    refine lv_istore (lv' := [(5, .int (nI (0))), (4, .int (-4)), (3, .int (nI (0))), (0, .ref (ad 114)), (1, .int (nI (f0))), (2, .int what)]) hx hb dX10_told_17 hl (by decide) rfl (fun ls hl => ?_)
    have L19 : ∀ (fu : Nat) (j v : Nat) (m0 : Int32), (j ≤ Fl f0) → (v = acB (FB f0) j) → (v ≤ j) → (m0 = grB (FB f0) j) → (Fl f0 - j) < fu → ∀ (ls : Array Slot), lv_has ls 8 [(5, .int (nI (j))), (4, .int m0), (3, .int (nI (v))), (0, .ref (ad 114)), (1, .int (nI (f0))), (2, .int what)] → W p l e (rmF 2 46) s m [.ref (ad 114), .int (nI f0), .int what].toArray below meth c s.heap [] 0 0 (MQ below (vp_Si (fun r => r = if isI (nI f0) fi then tolA (FB (nI f0).toNatClampNeg) (Fl (nI f0).toNatClampNeg) what else -1)) [.ref (ad 114), .int (nI f0), .int what].toArray s 0 0 (fun _ => False)) (F0 m 19 ls []) := by
      intro fu
      induction fu with
      | zero => intro j v m0 hj hv hvb hm0 hms ls hl; exact absurd hms (Nat.not_lt_zero _)
      | succ fu ih19 =>
        intro j v m0 hj hv hvb hm0 hms ls hl
        refine lv_iload hx hb dX10_told_19 (lv_at hl 0 rfl) ?_
        refine lv_aload_n hx hb dX10_told_21 rfl (lv_at hl 3 rfl) ?_
        refine mg S hK hP (by omega) hM fd_X10_42 rfl dX10_told_22 ?_
        refine lv_iload_n hx hb dX10_told_25 rfl (lv_at hl 4 rfl) ?_
        refine mial S hK hP (by omega) hBY (vp_in_nI (by omega) (by omega)) dX10_told_26 ?_
        refine tpi (congrArg ((fun x9 => nI (BY x9))) (nI_clamp (by omega))) ?_
        refine tpi (congrArg nI hq.1) ?_
        refine lv_icmp_ge (tgt := 110) hx hb dX10_told_27 (by decide) (fun c_27 => ?_) (fun c_27 => ?_)
        · skip
          have c_27 := (nI_leI (by omega) (by omega)).mp c_27
          refine lv_iload_n hx hb dX10_told_110 rfl (lv_at hl 5 rfl) ?_
          refine lv_i2l hx hb dX10_told_111 rfl ?_
          refine lv_ldc2 hx hb S.2.2.2.1 (S.2.2.2.2 _ m_X10_289) dX10_told_112 ?_
          refine tpl (show (10 : Int64) = lN 10 from rfl) ?_
          refine lv_bipush (v := nI (9)) hx hb dX10_told_115 (by decide) ?_
          refine lv_aload_n hx hb dX10_told_117 rfl (lv_at hl 3 rfl) ?_
          refine mg S hK hP (by omega) hM fd_X10_42 rfl dX10_told_118 ?_
          refine lv_iload_n hx hb dX10_told_121 rfl (lv_at hl 4 rfl) ?_
          refine mial S hK hP (by omega) hBY (vp_in_nI (by omega) (by omega)) dX10_told_122 ?_
          refine tpi (congrArg ((fun x9 => nI (BY x9))) (nI_clamp (by omega))) ?_
          refine tpi (congrArg nI hq.1) ?_
          refine lv_iadd hx hb dX10_told_123 ?_
          refine tpi (nI_add 9 (Fl f0)) ?_
          refine lv_i2l hx hb dX10_told_124 rfl ?_
          refine tpl (nI_l (by omega)) ?_
          refine kSi (As := [.long what.toInt64, .long (lN 10), .long (lN (9 + Fl f0))]) (rest := []) S hK hP (c_X10_in l D cy ad N g what.toInt64 (lN 10) (lN (9 + Fl f0))) cs_X10_115 ⟨rfl, rfl⟩ rfl hl.1 rfl (Nat.le_of_ble_eq_true rfl) ⟨Nat.zero_le _, Nat.zero_le _⟩ dX10_told_125 (fun r_125 q_125 => ?_)
          subst q_125
          refine tpi (ifC (in_45 (by omega) (by omega))) ?_
          refine lv_if_eq (tgt := 147) hx hb dX10_told_128 (by decide) (fun c_128 => ?_) (fun c_128 => ?_)
          · skip
            have c_128 := bz_eq.mp c_128
            refine lv_iload_n hx hb dX10_told_147 rfl (lv_at hl 5 rfl) ?_
            refine lv_i2l hx hb dX10_told_148 rfl ?_
            refine lv_ldc2 hx hb S.2.2.2.1 (S.2.2.2.2 _ m_X10_291) dX10_told_149 ?_
            refine tpl (show (300 : Int64) = lN 300 from rfl) ?_
            refine lv_sipush (v := nI (299)) hx hb dX10_told_152 (by decide) ?_
            refine lv_aload_n hx hb dX10_told_155 rfl (lv_at hl 3 rfl) ?_
            refine mg S hK hP (by omega) hM fd_X10_42 rfl dX10_told_156 ?_
            refine lv_iload_n hx hb dX10_told_159 rfl (lv_at hl 4 rfl) ?_
            refine mial S hK hP (by omega) hBY (vp_in_nI (by omega) (by omega)) dX10_told_160 ?_
            refine tpi (congrArg ((fun x9 => nI (BY x9))) (nI_clamp (by omega))) ?_
            refine tpi (congrArg nI hq.1) ?_
            refine lv_iadd hx hb dX10_told_161 ?_
            refine tpi (nI_add 299 (Fl f0)) ?_
            refine lv_i2l hx hb dX10_told_162 rfl ?_
            refine tpl (nI_l (by omega)) ?_
            refine kSi (As := [.long what.toInt64, .long (lN 300), .long (lN (299 + Fl f0))]) (rest := []) S hK hP (c_X10_in l D cy ad N g what.toInt64 (lN 300) (lN (299 + Fl f0))) cs_X10_115 ⟨rfl, rfl⟩ rfl hl.1 rfl (Nat.le_of_ble_eq_true rfl) ⟨Nat.zero_le _, Nat.zero_le _⟩ dX10_told_163 (fun r_163 q_163 => ?_)
            subst q_163
            refine tpi (ifC (in_45 (by omega) (by omega))) ?_
            refine lv_if_eq (tgt := 186) hx hb dX10_told_166 (by decide) (fun c_166 => ?_) (fun c_166 => ?_)
            · skip
              have c_166 := bz_eq.mp c_166
              refine lv_iload_n hx hb dX10_told_186 rfl (lv_at hl 5 rfl) ?_
              refine lv_if_ne (tgt := 199) hx hb dX10_told_187 (by decide) (fun c_187 => ?_) (fun c_187 => ?_)
              · skip
                refine lv_iload_n hx hb dX10_told_199 rfl (lv_at hl 5 rfl) ?_
                refine lv_iconst (v := nI (1)) hx hb dX10_told_200 (by decide) ?_
                refine lv_icmp_ne (tgt := 208) hx hb dX10_told_201 (by decide) (fun c_201 => ?_) (fun c_201 => ?_)
                · skip
                  refine lv_iload_n hx hb dX10_told_208 rfl (lv_at hl 5 rfl) ?_
                  refine lv_iconst (v := nI (2)) hx hb dX10_told_209 (by decide) ?_
                  refine lv_icmp_ne (tgt := 218) hx hb dX10_told_210 (by decide) (fun c_210 => ?_) (fun c_210 => ?_)
                  · skip
                    refine lv_iconst (v := (-1)) hx hb dX10_told_218 (by decide) ?_
                    have hjE : j = Fl f0 := by omega
                    exact rSi S hr hlk (by rw [if_pos hJ, nI_clamp hf031]; exact (tol_out hq.2.1 c_187 c_201 c_210 c_128 c_166).symm) dX10_told_219
                  · skip
                    refine lv_iload hx hb dX10_told_213 (lv_at hl 1 rfl) ?_
                    refine lv_goto (tgt := 219) hx hb dX10_told_215 (by decide) ?_
                    have hjE : j = Fl f0 := by omega
                    exact rSi S hr hlk (by rw [if_pos hJ, nI_clamp hf031]; rw [show what = nI 2 from c_210, hm0, hjE]; rfl) dX10_told_219
                · skip
                  refine lv_iload_n hx hb dX10_told_204 rfl (lv_at hl 2 rfl) ?_
                  refine lv_goto (tgt := 219) hx hb dX10_told_205 (by decide) ?_
                  have hjE : j = Fl f0 := by omega
                  exact rSi S hr hlk (by rw [if_pos hJ, nI_clamp hf031]; rw [show what = nI 1 from c_201, hv, hjE]; rfl) dX10_told_219
              · skip
                refine lv_aload_n hx hb dX10_told_190 rfl (lv_at hl 3 rfl) ?_
                refine mg S hK hP (by omega) hM fd_X10_42 rfl dX10_told_191 ?_
                refine lv_iload_n hx hb dX10_told_194 rfl (lv_at hl 4 rfl) ?_
                refine mial S hK hP (by omega) hBY (vp_in_nI (by omega) (by omega)) dX10_told_195 ?_
                refine tpi (congrArg ((fun x9 => nI (BY x9))) (nI_clamp (by omega))) ?_
                refine tpi (congrArg nI hq.1) ?_
                refine lv_goto (tgt := 219) hx hb dX10_told_196 (by decide) ?_
                have hjE : j = Fl f0 := by omega
                exact rSi S hr hlk (by rw [if_pos hJ, nI_clamp hf031]; rw [c_187]; rfl) dX10_told_219
            · skip
              have c_166 := bz_ne.mp c_166
              obtain ⟨jf, hjf, rfl⟩ := rg_n (a := 299) (by omega) c_166
              refine lv_aload_n hx hb dX10_told_169 rfl (lv_at hl 3 rfl) ?_
              refine mg S hK hP (by omega) hM fd_X10_48 rfl dX10_told_170 ?_
              refine lv_sipush (v := nI (200)) hx hb dX10_told_173 (by decide) ?_
              refine lv_iload_n hx hb dX10_told_176 rfl (lv_at hl 4 rfl) ?_
              refine lv_imul hx hb dX10_told_177 ?_
              refine tpi (pk_mul 200 f0) ?_
              refine lv_iload_n hx hb dX10_told_178 rfl (lv_at hl 5 rfl) ?_
              refine lv_iadd hx hb dX10_told_179 ?_
              refine tpi (nI_add (200 * f0) ((jf + 300))) ?_
              refine lv_sipush (v := nI (300)) hx hb dX10_told_180 (by decide) ?_
              refine lv_isub hx hb dX10_told_183 ?_
              refine tpi (pk_sub (a := (200 * f0) + ((jf + 300))) (b := 300) (by omega)) ?_
              refine tpi (congrArg nI (show 200 * f0 + (jf + 300) - 300 = 200 * f0 + jf by omega)) ?_
              refine mial S hK hP (by omega) hBN (vp_in_nI (by omega) (by omega)) dX10_told_184 ?_
              refine tpi (congrArg ((fun x9 => nI (BN x9))) (nI_clamp (by omega))) ?_
              refine tpi (congrArg nI (hq.2.2 jf (by omega)).2.1) ?_
              have hjE : j = Fl f0 := by omega
              exact rSi S hr hlk (by rw [if_pos hJ, nI_clamp hf031, tol_n hq.2.1 hjf, bt8_in hjf]) dX10_told_185
          · skip
            have c_128 := bz_ne.mp c_128
            obtain ⟨jf, hjf, rfl⟩ := rg_n (a := 9) (by omega) c_128
            refine lv_aload_n hx hb dX10_told_131 rfl (lv_at hl 3 rfl) ?_
            refine mg S hK hP (by omega) hM fd_X10_45 rfl dX10_told_132 ?_
            refine lv_sipush (v := nI (200)) hx hb dX10_told_135 (by decide) ?_
            refine lv_iload_n hx hb dX10_told_138 rfl (lv_at hl 4 rfl) ?_
            refine lv_imul hx hb dX10_told_139 ?_
            refine tpi (pk_mul 200 f0) ?_
            refine lv_iload_n hx hb dX10_told_140 rfl (lv_at hl 5 rfl) ?_
            refine lv_iadd hx hb dX10_told_141 ?_
            refine tpi (nI_add (200 * f0) ((jf + 10))) ?_
            refine lv_bipush (v := nI (10)) hx hb dX10_told_142 (by decide) ?_
            refine lv_isub hx hb dX10_told_144 ?_
            refine tpi (pk_sub (a := (200 * f0) + ((jf + 10))) (b := 10) (by omega)) ?_
            refine tpi (congrArg nI (show 200 * f0 + (jf + 10) - 10 = 200 * f0 + jf by omega)) ?_
            refine mial S hK hP (by omega) hBS (vp_in_nI (by omega) (by omega)) dX10_told_145 ?_
            refine tpi (congrArg ((fun x9 => nI (BS x9))) (nI_clamp (by omega))) ?_
            refine tpi (congrArg nI (hq.2.2 jf (by omega)).1) ?_
            have hjE : j = Fl f0 := by omega
            exact rSi S hr hlk (by rw [if_pos hJ, nI_clamp hf031, tol_s hq.2.1 hjf, bt8_in hjf]) dX10_told_146
        · skip
          have c_27 := (not_congr (nI_leI (by omega) (by omega))).mp c_27
          have hqj := hq.2.2 j (by omega)
          refine lv_aload_n hx hb dX10_told_30 rfl (lv_at hl 3 rfl) ?_
          refine mg S hK hP (by omega) hM fd_X10_45 rfl dX10_told_31 ?_
          refine lv_sipush (v := nI (200)) hx hb dX10_told_34 (by decide) ?_
          refine lv_iload_n hx hb dX10_told_37 rfl (lv_at hl 4 rfl) ?_
          refine lv_imul hx hb dX10_told_38 ?_
          refine tpi (pk_mul 200 f0) ?_
          refine lv_iload hx hb dX10_told_39 (lv_at hl 0 rfl) ?_
          refine lv_iadd hx hb dX10_told_41 ?_
          refine tpi (nI_add (200 * f0) j) ?_
          refine mial S hK hP (by omega) hBS (vp_in_nI (by omega) (by omega)) dX10_told_42 ?_
          refine tpi (congrArg ((fun x9 => nI (BS x9))) (nI_clamp (by omega))) ?_
          refine tpi (congrArg nI hqj.1) ?_
          refine lv_istore (lv' := [(6, .int (nI (FB f0 j / 8))), (5, .int (nI (j))), (4, .int m0), (3, .int (nI (v))), (0, .ref (ad 114)), (1, .int (nI (f0))), (2, .int what)]) hx hb dX10_told_43 hl (by decide) rfl (fun ls hl => ?_)
          refine lv_aload_n hx hb dX10_told_45 rfl (lv_at hl 4 rfl) ?_
          refine mg S hK hP (by omega) hM fd_X10_48 rfl dX10_told_46 ?_
          refine lv_sipush (v := nI (200)) hx hb dX10_told_49 (by decide) ?_
          refine lv_iload_n hx hb dX10_told_52 rfl (lv_at hl 5 rfl) ?_
          refine lv_imul hx hb dX10_told_53 ?_
          refine tpi (pk_mul 200 f0) ?_
          refine lv_iload hx hb dX10_told_54 (lv_at hl 1 rfl) ?_
          refine lv_iadd hx hb dX10_told_56 ?_
          refine tpi (nI_add (200 * f0) j) ?_
          refine mial S hK hP (by omega) hBN (vp_in_nI (by omega) (by omega)) dX10_told_57 ?_
          refine tpi (congrArg ((fun x9 => nI (BN x9))) (nI_clamp (by omega))) ?_
          refine tpi (congrArg nI hqj.2.1) ?_
          refine lv_istore (lv' := [(7, .int (nI (FB f0 j % 8))), (6, .int (nI (FB f0 j / 8))), (5, .int (nI (j))), (4, .int m0), (3, .int (nI (v))), (0, .ref (ad 114)), (1, .int (nI (f0))), (2, .int what)]) hx hb dX10_told_58 hl (by decide) rfl (fun ls hl => ?_)
          refine lv_iload_n hx hb dX10_told_60 rfl (lv_at hl 4 rfl) ?_
          refine lv_iload hx hb dX10_told_61 (lv_at hl 1 rfl) ?_
          refine lv_bipush (v := nI (6)) hx hb dX10_told_63 (by decide) ?_
          have J73 : ∀ (z9 : Nat), (v + z9 = acB (FB f0) (j + 1)) → (z9 ≤ 1) → ∀ (ls : Array Slot), lv_has ls 8 [(7, .int (nI (FB f0 j % 8))), (6, .int (nI (FB f0 j / 8))), (5, .int (nI (j))), (4, .int m0), (3, .int (nI (v))), (0, .ref (ad 114)), (1, .int (nI (f0))), (2, .int what)] → W p l e (rmF 2 46) s m [.ref (ad 114), .int (nI f0), .int what].toArray below meth c s.heap [] 0 0 (MQ below (vp_Si (fun r => r = if isI (nI f0) fi then tolA (FB (nI f0).toNatClampNeg) (Fl (nI f0).toNatClampNeg) what else -1)) [.ref (ad 114), .int (nI f0), .int what].toArray s 0 0 (fun _ => False)) (F0 m 73 ls [.int (nI (z9)), .int (nI (v))]) := by
            intro z9 hz9 hz9b ls hl
            refine lv_iadd hx hb dX10_told_73 ?_
            refine tpi (nI_add v z9) ?_
            refine lv_istore_n (lv' := [(3, .int (nI (v + z9))), (7, .int (nI (FB f0 j % 8))), (6, .int (nI (FB f0 j / 8))), (5, .int (nI (j))), (4, .int m0), (0, .ref (ad 114)), (1, .int (nI (f0))), (2, .int what)]) hx hb dX10_told_74 rfl hl (by decide) rfl (fun ls hl => ?_)
            refine lv_iload hx hb dX10_told_75 (lv_at hl 2 rfl) ?_
            refine lv_bipush (v := nI (6)) hx hb dX10_told_77 (by decide) ?_
            have J102 : ∀ (m1 : Int32), (m1 = grB (FB f0) (j + 1)) → ∀ (ls : Array Slot), lv_has ls 8 [(3, .int (nI (v + z9))), (7, .int (nI (FB f0 j % 8))), (6, .int (nI (FB f0 j / 8))), (5, .int (nI (j))), (4, .int m0), (0, .ref (ad 114)), (1, .int (nI (f0))), (2, .int what)] → W p l e (rmF 2 46) s m [.ref (ad 114), .int (nI f0), .int what].toArray below meth c s.heap [] 0 0 (MQ below (vp_Si (fun r => r = if isI (nI f0) fi then tolA (FB (nI f0).toNatClampNeg) (Fl (nI f0).toNatClampNeg) what else -1)) [.ref (ad 114), .int (nI f0), .int what].toArray s 0 0 (fun _ => False)) (F0 m 102 ls [.int m1]) := by
              intro m1 hm1 ls hl
              refine lv_istore (lv' := [(4, .int m1), (3, .int (nI (v + z9))), (7, .int (nI (FB f0 j % 8))), (6, .int (nI (FB f0 j / 8))), (5, .int (nI (j))), (0, .ref (ad 114)), (1, .int (nI (f0))), (2, .int what)]) hx hb dX10_told_102 hl (by decide) rfl (fun ls hl => ?_)
              refine lv_iinc (v := nI (j + 1)) (lv' := [(5, .int (nI (j + 1))), (4, .int m1), (3, .int (nI (v + z9))), (7, .int (nI (FB f0 j % 8))), (6, .int (nI (FB f0 j / 8))), (0, .ref (ad 114)), (1, .int (nI (f0))), (2, .int what)]) hx hb dX10_told_104 hl (k := 4) rfl (by exact nI_add j 1) (by decide) rfl (fun ls hl => ?_)
              refine lv_goto (tgt := 19) hx hb dX10_told_107 (by decide) ?_
              exact ih19 (j + 1) (v + z9) m1 (by omega) hz9 (by omega) hm1 (by omega) _ (lv_sub hl [0, 1, 2, 5, 6, 7] rfl)
            refine lv_icmp_eq (tgt := 100) hx hb dX10_told_79 (by decide) (fun c_79 => ?_) (fun c_79 => ?_)
            · skip
              have c_79 := (nI_eq (by omega) (by omega)).mp c_79
              refine lv_iload hx hb dX10_told_100 (lv_at hl 4 rfl) ?_
              exact J102 m0 (by first | exact grB_a hm0 (Or.inl c_79) | exact grB_a hm0 (Or.inr c_85) | exact grB_b hm0 c_92) _ (lv_sub hl [0, 1, 2, 3, 4, 5, 6, 7] rfl)
            · skip
              have c_79 := (not_congr (nI_eq (by omega) (by omega))).mp c_79
              refine lv_iload hx hb dX10_told_82 (lv_at hl 2 rfl) ?_
              refine lv_iconst (v := nI (3)) hx hb dX10_told_84 (by decide) ?_
              refine lv_icmp_eq (tgt := 100) hx hb dX10_told_85 (by decide) (fun c_85 => ?_) (fun c_85 => ?_)
              · skip
                have c_85 := (nI_eq (by omega) (by omega)).mp c_85
                refine lv_iload hx hb dX10_told_100 (lv_at hl 4 rfl) ?_
                exact J102 m0 (by first | exact grB_a hm0 (Or.inl c_79) | exact grB_a hm0 (Or.inr c_85) | exact grB_b hm0 c_92) _ (lv_sub hl [0, 1, 2, 3, 4, 5, 6, 7] rfl)
              · skip
                have c_85 := (not_congr (nI_eq (by omega) (by omega))).mp c_85
                refine lv_iload hx hb dX10_told_88 (lv_at hl 1 rfl) ?_
                refine lv_iload hx hb dX10_told_90 (lv_at hl 4 rfl) ?_
                refine lv_icmp_le (tgt := 100) hx hb dX10_told_92 (by decide) (fun c_92 => ?_) (fun c_92 => ?_)
                · skip
                  refine lv_iload hx hb dX10_told_100 (lv_at hl 4 rfl) ?_
                  exact J102 m0 (by first | exact grB_a hm0 (Or.inl c_79) | exact grB_a hm0 (Or.inr c_85) | exact grB_b hm0 c_92) _ (lv_sub hl [0, 1, 2, 3, 4, 5, 6, 7] rfl)
                · skip
                  refine lv_iload hx hb dX10_told_95 (lv_at hl 1 rfl) ?_
                  refine lv_goto (tgt := 102) hx hb dX10_told_97 (by decide) ?_
                  exact J102 (nI (FB f0 j % 8)) (grB_c hm0 c_79 c_85 c_92) _ (lv_sub hl [0, 1, 2, 3, 4, 5, 6, 7] rfl)
          refine lv_icmp_eq (tgt := 72) hx hb dX10_told_65 (by decide) (fun c_65 => ?_) (fun c_65 => ?_)
          · skip
            have c_65 := (nI_eq (by omega) (by omega)).mp c_65
            refine lv_iconst (v := nI (0)) hx hb dX10_told_72 (by decide) ?_
            exact J73 0 (by rw [hv, acB, if_pos c_65]) (by omega) _ (lv_sub hl [0, 1, 2, 3, 4, 5, 6, 7] rfl)
          · skip
            have c_65 := (not_congr (nI_eq (by omega) (by omega))).mp c_65
            refine lv_iconst (v := nI (1)) hx hb dX10_told_68 (by decide) ?_
            refine lv_goto (tgt := 73) hx hb dX10_told_69 (by decide) ?_
            exact J73 1 (by rw [hv, acB, if_neg c_65]) (by omega) _ (lv_sub hl [0, 1, 2, 3, 4, 5, 6, 7] rfl)
    exact L19 ((Fl f0 - 0) + 1) 0 0 (-4) (by omega) rfl (by omega) rfl (Nat.lt_succ_self _) _ (lv_sub hl [0, 1, 2, 3, 4, 5] rfl)
  · skip
    have c_5 := bz_eq.mp c_5
    have hJ : ¬ isI x0 fi := c_5
    refine lv_iconst (v := (-1)) hx hb dX10_told_8 (by decide) ?_
    exact rSi S hr hlk (if_neg hJ).symm dX10_told_9
set_option maxHeartbeats 4000000 in
set_option maxRecDepth 100000 in
theorem c_X10_perform (l : Launch) (D : va_G) (cy : Nat → ClassId) (ad : Nat → Nat) (N : Nat) (g : Nat → va_E) (hinj : ∀ i j : Nat, i < N → j < N → ad i = ad j → i = j) (hN : 145 ≤ N) (F : FS) (la : Int32) (bo : Int32) (tp : Nat) (ft : Int32) (wr0 : Nat) (wa : Nat) (at0 : Nat) (sp : Nat) (tk : Nat) (vl : Int32) (fi : Nat) (nm : Nat) (dp : Nat) (wy : Int32) (st : Int32) (aP : Nat) (aF : Nat) (aH : Nat) (aO : Nat) (ps : Nat) (mn : Nat) (go : Int32) (vi : Nat) (hM : g 114 = mob ad (nI (wn F.1)) (nI (wf F.1)) (nI (wh F.1)) (lN (wo F.1)) (nI (F.2.2.2)) la bo (nI (tp)) ft (nI (wr0)) (nI (wa)) (nI (at0)) (nI (sp)) (nI (tk)) vl (nI (fi)) (nI (nm)) (nI (dp)) wy st (nI (aP)) (nI (aF)) (nI (aH)) (lN aO) (nI (ps)) (nI (mn)) go (nI (vi))) (P : Nat → Nat) (hP9 : g 115 = .inl (cy 1, 8, .inl (fun x9 => nI (P x9)))) (hF : FOK F) (hPw : ∀ i, i < wn F.1 → P i = wp F.1 i) (OP : Nat → Nat) (hO1 : g 116 = .inl (cy 1, 12, .inl (fun x9 => nI (OP x9)))) (OF : Nat → Nat) (hO2 : g 117 = .inl (cy 1, 12, .inl (fun x9 => nI (OF x9)))) (OH : Nat → Nat) (hO3 : g 118 = .inl (cy 1, 12, .inl (fun x9 => nI (OH x9)))) (OO : Nat → Int64) (hO4 : g 119 = .inl (cy 2, 12, .inr (.inl OO))) (hUR : UR F OP OF OH OO) (BY : Nat → Nat) (hBY : g 122 = .inl (cy 1, 8, .inl (fun x9 => nI (BY x9)))) (BS : Nat → Nat) (hBS : g 123 = .inl (cy 1, 1600, .inl (fun x9 => nI (BS x9)))) (BN : Nat → Nat) (hBN : g 124 = .inl (cy 1, 1600, .inl (fun x9 => nI (BN x9)))) (Fl : Nat → Nat) (FB : Nat → Nat → Nat) (hfi : fi ≤ 8) (hFR : FR fi BY BS BN Fl FB) (DM : Nat → Nat) (hDM : g 139 = .inl (cy 1, 4, .inl (fun x9 => nI (DM x9)))) (DA : Nat → Nat) (hDA : g 140 = .inl (cy 1, 64, .inl (fun x9 => nI (DA x9)))) (Vl : Nat → Nat) (VV : Nat → Nat → Nat) (hvi : vi ≤ 4) (hVR : VR vi fi DM DA Vl VV) (rf : Int32) (x0 : Int32) : Met l yX10_perform (WS yX10_perform cX10_perform 4 (some .int)) (rmF 6 155) (PP [.ref (ad 114), .int x0] D cy ad N g) (QI (fun r g1 => ∃ (P2 : Nat → Nat), ∃ (OP2 : Nat → Nat), ∃ (OF2 : Nat → Nat), ∃ (OH2 : Nat → Nat), ∃ (OO2 : Nat → Int64), ∃ (st2 : Int32), (r = (if isI x0 vi then pfA FB Fl fi (VV x0.toNatClampNeg) (Vl x0.toNatClampNeg) (Vl x0.toNatClampNeg) (F, rf, wy) 0 else (-1, F, rf, wy)).1) ∧ (∀ i, i < wn F.1 → P2 i = wp (if isI x0 vi then pfA FB Fl fi (VV x0.toNatClampNeg) (Vl x0.toNatClampNeg) (Vl x0.toNatClampNeg) (F, rf, wy) 0 else (-1, F, rf, wy)).2.1.1 i) ∧ (UR (if isI x0 vi then pfA FB Fl fi (VV x0.toNatClampNeg) (Vl x0.toNatClampNeg) (Vl x0.toNatClampNeg) (F, rf, wy) 0 else (-1, F, rf, wy)).2.1 OP2 OF2 OH2 OO2) ∧ g1 114 = mob ad (nI (wn F.1)) (nI (wf (if isI x0 vi then pfA FB Fl fi (VV x0.toNatClampNeg) (Vl x0.toNatClampNeg) (Vl x0.toNatClampNeg) (F, rf, wy) 0 else (-1, F, rf, wy)).2.1.1)) (nI (wh (if isI x0 vi then pfA FB Fl fi (VV x0.toNatClampNeg) (Vl x0.toNatClampNeg) (Vl x0.toNatClampNeg) (F, rf, wy) 0 else (-1, F, rf, wy)).2.1.1)) (lN (wo (if isI x0 vi then pfA FB Fl fi (VV x0.toNatClampNeg) (Vl x0.toNatClampNeg) (Vl x0.toNatClampNeg) (F, rf, wy) 0 else (-1, F, rf, wy)).2.1.1)) (nI ((if isI x0 vi then pfA FB Fl fi (VV x0.toNatClampNeg) (Vl x0.toNatClampNeg) (Vl x0.toNatClampNeg) (F, rf, wy) 0 else (-1, F, rf, wy)).2.1.2.2.2)) la bo (nI (tp)) ft (nI (wr0)) (nI (wa)) (nI (at0)) (nI (sp)) (nI (tk)) vl (nI (fi)) (nI (nm)) (nI (dp)) ((if isI x0 vi then pfA FB Fl fi (VV x0.toNatClampNeg) (Vl x0.toNatClampNeg) (Vl x0.toNatClampNeg) (F, rf, wy) 0 else (-1, F, rf, wy)).2.2.2) st2 (nI (aP)) (nI (aF)) (nI (aH)) (lN aO) (nI (ps)) (nI (mn)) go (nI (vi)) ∧ g1 115 = .inl (cy 1, 8, .inl (fun x9 => nI (P2 x9))) ∧ g1 116 = .inl (cy 1, 12, .inl (fun x9 => nI (OP2 x9))) ∧ g1 117 = .inl (cy 1, 12, .inl (fun x9 => nI (OF2 x9))) ∧ g1 118 = .inl (cy 1, 12, .inl (fun x9 => nI (OH2 x9))) ∧ g1 119 = .inl (cy 2, 12, .inr (.inl OO2)) ∧ (∀ j, j ≠ 114 → j ≠ 115 → j ≠ 116 → j ≠ 117 → j ≠ 118 → j ≠ 119 → g1 j = g j)) D ad N) 0 0 (AA ad N) := by
  refine mentry (by decide) (Nat.le_of_ble_eq_true rfl) (fun p e s m below meth c ls S hr hlk hnm hP hK hl => ?_)
  have S : CallFix p m c cX10_perform 4 s _ wsL_law RX10 := S
  have hx := S.1
  have hb := S.2.1
  have hl : lv_has ls 4 [(0, .ref (ad 114)), (1, .int x0)] := hl
  have hI : MD (AA ad N) ad N := MD.in hinj
  have hS : va_S (AA ad N) s.heap s.heap [] := va_S.rf
  have hfr : ∀ j : Nat, g j = g j := fun _ => rfl
  refine lv_aload_n hx hb dX10_perform_0 rfl (lv_at hl 0 rfl) ?_
  refine lv_iload_n hx hb dX10_perform_1 rfl (lv_at hl 1 rfl) ?_
  refine kVi (As := [.int x0]) (rest := []) S hK hP (c_X10_isVillage l D cy ad N g (by omega) (wn F.1) (wf F.1) (wh F.1) (wo F.1) F.2.2.2 la bo tp ft wr0 wa at0 sp tk vl fi nm dp wy st aP aF aH aO ps mn go vi hM hvi x0) cv_X10_363 (by omega) hM ⟨_, _, rfl⟩ ⟨rfl, rfl⟩ rfl hl.1 rfl (Nat.le_of_ble_eq_true rfl) ⟨Nat.zero_le _, Nat.zero_le _⟩ dX10_perform_2 (fun r_2 q_2 => ?_)
  subst q_2
  refine lv_if_ne (tgt := 10) hx hb dX10_perform_5 (by decide) (fun c_5 => ?_) (fun c_5 => ?_)
  · skip
    have c_5 := bz_ne.mp c_5
    obtain ⟨k0, hk0b, rfl⟩ := isI_nat (by omega) c_5
    have hJ := c_5
    have hk031 : k0 < 2 ^ 31 := by omega
    have hq := hVR.1 k0 hk0b
    refine lv_iconst (v := nI (0)) hx hb dX10_perform_10 (by decide) ?_
    refine lv_istore_n (lv' := [(2, .int (nI (0))), (0, .ref (ad 114)), (1, .int (nI (k0)))]) hx hb dX10_perform_11 rfl hl (by decide) rfl (fun ls hl => ?_)
    have L12 : ∀ (fu : Nat) (c9 : Nat) (rf3 w3 s3 : Int32) (F3 : FS) (P3 OP3 OF3 OH3 : Nat → Nat) (OO3 : Nat → Int64), (c9 ≤ Vl k0) → (FOK F3) → (∀ j, j < wn F3.1 → P3 j = wp F3.1 j) → (UR F3 OP3 OF3 OH3 OO3) → (wn F3.1 = wn F.1) → (pfA FB Fl fi (VV k0) (Vl k0) (Vl k0) (F, rf, wy) 0 = pfA FB Fl fi (VV k0) (Vl k0) (Vl k0 - c9) (F3, rf3, w3) c9) → (Vl k0 - c9) < fu → ∀ (g_1 : Nat → va_E) (H : Heap) (locs : List Loc), g_1 114 = mob ad (nI (wn F3.1)) (nI (wf F3.1)) (nI (wh F3.1)) (lN (wo F3.1)) (nI (F3.2.2.2)) la bo (nI (tp)) ft (nI (wr0)) (nI (wa)) (nI (at0)) (nI (sp)) (nI (tk)) vl (nI (fi)) (nI (nm)) (nI (dp)) w3 s3 (nI (aP)) (nI (aF)) (nI (aH)) (lN aO) (nI (ps)) (nI (mn)) go (nI (vi)) → g_1 115 = .inl (cy 1, 8, .inl (fun x9 => nI (P3 x9))) → g_1 116 = .inl (cy 1, 12, .inl (fun x9 => nI (OP3 x9))) → g_1 117 = .inl (cy 1, 12, .inl (fun x9 => nI (OF3 x9))) → g_1 118 = .inl (cy 1, 12, .inl (fun x9 => nI (OH3 x9))) → g_1 119 = .inl (cy 2, 12, .inr (.inl OO3)) → (∀ j : Nat, j ≠ 114 → j ≠ 115 → j ≠ 116 → j ≠ 117 → j ≠ 118 → j ≠ 119 → g_1 j = g j) → MM D ad N g_1 H → va_S (AA ad N) s.heap H locs → ∀ (ls : Array Slot), lv_has ls 4 [(2, .int (nI (c9))), (0, .ref (ad 114)), (1, .int (nI (k0)))] → W p l e (rmF 6 155) s m [.ref (ad 114), .int (nI k0)].toArray below meth c H locs 0 0 (MQ below (QI (fun r g1 => ∃ (P2 : Nat → Nat), ∃ (OP2 : Nat → Nat), ∃ (OF2 : Nat → Nat), ∃ (OH2 : Nat → Nat), ∃ (OO2 : Nat → Int64), ∃ (st2 : Int32), (r = (if isI (nI k0) vi then pfA FB Fl fi (VV (nI k0).toNatClampNeg) (Vl (nI k0).toNatClampNeg) (Vl (nI k0).toNatClampNeg) (F, rf, wy) 0 else (-1, F, rf, wy)).1) ∧ (∀ i, i < wn F.1 → P2 i = wp (if isI (nI k0) vi then pfA FB Fl fi (VV (nI k0).toNatClampNeg) (Vl (nI k0).toNatClampNeg) (Vl (nI k0).toNatClampNeg) (F, rf, wy) 0 else (-1, F, rf, wy)).2.1.1 i) ∧ (UR (if isI (nI k0) vi then pfA FB Fl fi (VV (nI k0).toNatClampNeg) (Vl (nI k0).toNatClampNeg) (Vl (nI k0).toNatClampNeg) (F, rf, wy) 0 else (-1, F, rf, wy)).2.1 OP2 OF2 OH2 OO2) ∧ g1 114 = mob ad (nI (wn F.1)) (nI (wf (if isI (nI k0) vi then pfA FB Fl fi (VV (nI k0).toNatClampNeg) (Vl (nI k0).toNatClampNeg) (Vl (nI k0).toNatClampNeg) (F, rf, wy) 0 else (-1, F, rf, wy)).2.1.1)) (nI (wh (if isI (nI k0) vi then pfA FB Fl fi (VV (nI k0).toNatClampNeg) (Vl (nI k0).toNatClampNeg) (Vl (nI k0).toNatClampNeg) (F, rf, wy) 0 else (-1, F, rf, wy)).2.1.1)) (lN (wo (if isI (nI k0) vi then pfA FB Fl fi (VV (nI k0).toNatClampNeg) (Vl (nI k0).toNatClampNeg) (Vl (nI k0).toNatClampNeg) (F, rf, wy) 0 else (-1, F, rf, wy)).2.1.1)) (nI ((if isI (nI k0) vi then pfA FB Fl fi (VV (nI k0).toNatClampNeg) (Vl (nI k0).toNatClampNeg) (Vl (nI k0).toNatClampNeg) (F, rf, wy) 0 else (-1, F, rf, wy)).2.1.2.2.2)) la bo (nI (tp)) ft (nI (wr0)) (nI (wa)) (nI (at0)) (nI (sp)) (nI (tk)) vl (nI (fi)) (nI (nm)) (nI (dp)) ((if isI (nI k0) vi then pfA FB Fl fi (VV (nI k0).toNatClampNeg) (Vl (nI k0).toNatClampNeg) (Vl (nI k0).toNatClampNeg) (F, rf, wy) 0 else (-1, F, rf, wy)).2.2.2) st2 (nI (aP)) (nI (aF)) (nI (aH)) (lN aO) (nI (ps)) (nI (mn)) go (nI (vi)) ∧ g1 115 = .inl (cy 1, 8, .inl (fun x9 => nI (P2 x9))) ∧ g1 116 = .inl (cy 1, 12, .inl (fun x9 => nI (OP2 x9))) ∧ g1 117 = .inl (cy 1, 12, .inl (fun x9 => nI (OF2 x9))) ∧ g1 118 = .inl (cy 1, 12, .inl (fun x9 => nI (OH2 x9))) ∧ g1 119 = .inl (cy 2, 12, .inr (.inl OO2)) ∧ (∀ j, j ≠ 114 → j ≠ 115 → j ≠ 116 → j ≠ 117 → j ≠ 118 → j ≠ 119 → g1 j = g j)) D ad N) [.ref (ad 114), .int (nI k0)].toArray s 0 0 (AA ad N)) (F0 m 12 ls []) := by
      intro fu
      induction fu with
      | zero => intro c9 rf3 w3 s3 F3 P3 OP3 OF3 OH3 OO3 hc9 hF3 hP3 hUR3 hn3 hor hms g_1 H locs h114_1 h115_1 h116_1 h117_1 h118_1 h119_1 hfr_1 hP hS ls hl; exact absurd hms (Nat.not_lt_zero _)
      | succ fu ih12 =>
        intro c9 rf3 w3 s3 F3 P3 OP3 OF3 OH3 OO3 hc9 hF3 hP3 hUR3 hn3 hor hms g_1 H locs h114_1 h115_1 h116_1 h117_1 h118_1 h119_1 hfr_1 hP hS ls hl
        have h122_1 : g_1 122 = .inl (cy 1, 8, .inl (fun x9 => nI (BY x9))) := (hfr_1 122 (by omega) (by omega) (by omega) (by omega) (by omega) (by omega)).trans hBY
        have h123_1 : g_1 123 = .inl (cy 1, 1600, .inl (fun x9 => nI (BS x9))) := (hfr_1 123 (by omega) (by omega) (by omega) (by omega) (by omega) (by omega)).trans hBS
        have h124_1 : g_1 124 = .inl (cy 1, 1600, .inl (fun x9 => nI (BN x9))) := (hfr_1 124 (by omega) (by omega) (by omega) (by omega) (by omega) (by omega)).trans hBN
        have h139_1 : g_1 139 = .inl (cy 1, 4, .inl (fun x9 => nI (DM x9))) := (hfr_1 139 (by omega) (by omega) (by omega) (by omega) (by omega) (by omega)).trans hDM
        have h140_1 : g_1 140 = .inl (cy 1, 64, .inl (fun x9 => nI (DA x9))) := (hfr_1 140 (by omega) (by omega) (by omega) (by omega) (by omega) (by omega)).trans hDA
        refine lv_iload_n hx hb dX10_perform_12 rfl (lv_at hl 0 rfl) ?_
        refine lv_aload_n hx hb dX10_perform_13 rfl (lv_at hl 1 rfl) ?_
        refine mg S hK hP (by omega) h114_1 fd_X10_93 rfl dX10_perform_14 ?_
        refine lv_iload_n hx hb dX10_perform_17 rfl (lv_at hl 2 rfl) ?_
        refine mial S hK hP (by omega) h139_1 (vp_in_nI (by omega) (by omega)) dX10_perform_18 ?_
        refine tpi (congrArg ((fun x9 => nI (DM x9))) (nI_clamp (by omega))) ?_
        refine tpi (congrArg nI hq.1) ?_
        refine lv_icmp_ge (tgt := 62) hx hb dX10_perform_19 (by decide) (fun c_19 => ?_) (fun c_19 => ?_)
        · skip
          have c_19 := (nI_leI (by omega) (by omega)).mp c_19
          refine lv_aload_n hx hb dX10_perform_62 rfl (lv_at hl 1 rfl) ?_
          refine mg S hK hP (by omega) h114_1 fd_X10_93 rfl dX10_perform_63 ?_
          refine lv_iload_n hx hb dX10_perform_66 rfl (lv_at hl 2 rfl) ?_
          refine mial S hK hP (by omega) h139_1 (vp_in_nI (by omega) (by omega)) dX10_perform_67 ?_
          refine tpi (congrArg ((fun x9 => nI (DM x9))) (nI_clamp (by omega))) ?_
          refine tpi (congrArg nI hq.1) ?_
          have hE := hor.trans (pfA_0 (by omega))
          exact rMi S hr hlk hP hS ⟨_, _, _, _, _, _, (by simp only [if_pos hJ, nI_clamp hk031]; rw [hE]), (by simp only [if_pos hJ, nI_clamp hk031]; rw [hE, ← hn3]; exact hP3), (by simp only [if_pos hJ, nI_clamp hk031]; rw [hE]; exact hUR3), (by simp only [if_pos hJ, nI_clamp hk031]; rw [hE, ← hn3]; exact h114_1), h115_1, h116_1, h117_1, h118_1, h119_1, hfr_1⟩ dX10_perform_68
        · skip
          have c_19 := (not_congr (nI_leI (by omega) (by omega))).mp c_19
          have hqj := hq.2.2 c9 (by omega)
          refine lv_aload_n hx hb dX10_perform_22 rfl (lv_at hl 1 rfl) ?_
          refine lv_aload_n hx hb dX10_perform_23 rfl (lv_at hl 1 rfl) ?_
          refine mg S hK hP (by omega) h114_1 fd_X10_96 rfl dX10_perform_24 ?_
          refine lv_bipush (v := nI (16)) hx hb dX10_perform_27 (by decide) ?_
          refine lv_iload_n hx hb dX10_perform_29 rfl (lv_at hl 2 rfl) ?_
          refine lv_imul hx hb dX10_perform_30 ?_
          refine tpi (pk_mul 16 k0) ?_
          refine lv_iload_n hx hb dX10_perform_31 rfl (lv_at hl 0 rfl) ?_
          refine lv_iadd hx hb dX10_perform_32 ?_
          refine tpi (nI_add (16 * k0) c9) ?_
          refine mial S hK hP (by omega) h140_1 (vp_in_nI (by omega) (by omega)) dX10_perform_33 ?_
          refine tpi (congrArg ((fun x9 => nI (DA x9))) (nI_clamp (by omega))) ?_
          refine tpi (congrArg nI hqj.1) ?_
          refine lv_iconst (v := nI (1)) hx hb dX10_perform_34 (by decide) ?_
          refine kMi (As := [.int (nI (VV k0 c9)), .int (nI (1))]) (rest := []) S hK hP hS (fun _ h => h) (c_X10_goes1 l D cy ad N g_1 hinj (by omega) F3 la bo tp ft wr0 wa at0 sp tk vl fi nm dp w3 s3 aP aF aH aO ps mn go vi h114_1 P3 h115_1 hF3 hP3 OP3 h116_1 OF3 h117_1 OH3 h118_1 OO3 h119_1 hUR3 BY h122_1 BS h123_1 BN h124_1 Fl FB hfi hFR (VV k0 c9) hqj.2) cv_X10_296 (by omega) h114_1 ⟨_, _, rfl⟩ ⟨rfl, rfl⟩ rfl hl.1 rfl (Nat.le_of_ble_eq_true rfl) ⟨Nat.zero_le _, Nat.zero_le _⟩ dX10_perform_35 (fun r_35 g_2 H locs q_2 hP hS => ?_)
          obtain ⟨P2_2, OP2_2, OF2_2, OH2_2, OO2_2, q_35, hP2_2, hUR2_2, h114_2, h115_2, h116_2, h117_2, h118_2, h119_2, f_2⟩ := q_2
          subst q_35
          have h122_2 : g_2 122 = .inl (cy 1, 8, .inl (fun x9 => nI (BY x9))) := (f_2 122 (by omega) (by omega) (by omega) (by omega) (by omega) (by omega)).trans h122_1
          have h123_2 : g_2 123 = .inl (cy 1, 1600, .inl (fun x9 => nI (BS x9))) := (f_2 123 (by omega) (by omega) (by omega) (by omega) (by omega) (by omega)).trans h123_1
          have h124_2 : g_2 124 = .inl (cy 1, 1600, .inl (fun x9 => nI (BN x9))) := (f_2 124 (by omega) (by omega) (by omega) (by omega) (by omega) (by omega)).trans h124_1
          have h139_2 : g_2 139 = .inl (cy 1, 4, .inl (fun x9 => nI (DM x9))) := (f_2 139 (by omega) (by omega) (by omega) (by omega) (by omega) (by omega)).trans h139_1
          have h140_2 : g_2 140 = .inl (cy 1, 64, .inl (fun x9 => nI (DA x9))) := (f_2 140 (by omega) (by omega) (by omega) (by omega) (by omega) (by omega)).trans h140_1
          have hfr_2 : ∀ j : Nat, j ≠ 114 → j ≠ 115 → j ≠ 116 → j ≠ 117 → j ≠ 118 → j ≠ 119 → g_2 j = g j := fun j n0 n1 n2 n3 n4 n5 => (f_2 j n0 n1 n2 n3 n4 n5).trans (hfr_1 j n0 n1 n2 n3 n4 n5)
          refine lv_istore_n (lv' := [(3, .int (dnF (rn (FB (VV k0 c9)) (Fl (VV k0 c9)) 0 F3 (Fl (VV k0 c9))))), (2, .int (nI (c9))), (0, .ref (ad 114)), (1, .int (nI (k0)))]) hx hb dX10_perform_38 rfl hl (by decide) rfl (fun ls hl => ?_)
          refine lv_aload_n hx hb dX10_perform_39 rfl (lv_at hl 2 rfl) ?_
          refine lv_aload_n hx hb dX10_perform_40 rfl (lv_at hl 2 rfl) ?_
          refine mg S hK hP (by omega) h114_2 fd_X10_293 rfl dX10_perform_41 ?_
          refine mp S hK hP hI hS (by omega) h114_2 fd_X10_300 rfl rfl (Nat.le_of_ble_eq_true rfl) dX10_perform_44 (fun g_3 H locs eg_3 hP hS => ?_)
          have h114_3 : g_3 114 = mob ad (nI (wn F3.1)) (nI (wf (rn (FB (VV k0 c9)) (Fl (VV k0 c9)) 0 F3 (Fl (VV k0 c9))).2.2.1)) (nI (wh (rn (FB (VV k0 c9)) (Fl (VV k0 c9)) 0 F3 (Fl (VV k0 c9))).2.2.1)) (lN (wo (rn (FB (VV k0 c9)) (Fl (VV k0 c9)) 0 F3 (Fl (VV k0 c9))).2.2.1)) (nI ((rn (FB (VV k0 c9)) (Fl (VV k0 c9)) 0 F3 (Fl (VV k0 c9))).2.2.2.2.2)) la bo (nI (tp)) ft (nI (wr0)) (nI (wa)) (nI (at0)) (nI (sp)) (nI (tk)) vl (nI (fi)) (nI (nm)) (nI (dp)) ((rn (FB (VV k0 c9)) (Fl (VV k0 c9)) 0 F3 (Fl (VV k0 c9))).2.1) ((rn (FB (VV k0 c9)) (Fl (VV k0 c9)) 0 F3 (Fl (VV k0 c9))).2.1) (nI (aP)) (nI (aF)) (nI (aH)) (lN aO) (nI (ps)) (nI (mn)) go (nI (vi)) := by rw [eg_3, va_up_self]; exact rfl
          have h115_3 : g_3 115 = .inl (cy 1, 8, .inl (fun x9 => nI (P2_2 x9))) := ((congrFun eg_3 _).trans (va_up_ne _ _ (by omega))).trans h115_2
          have h116_3 : g_3 116 = .inl (cy 1, 12, .inl (fun x9 => nI (OP2_2 x9))) := ((congrFun eg_3 _).trans (va_up_ne _ _ (by omega))).trans h116_2
          have h117_3 : g_3 117 = .inl (cy 1, 12, .inl (fun x9 => nI (OF2_2 x9))) := ((congrFun eg_3 _).trans (va_up_ne _ _ (by omega))).trans h117_2
          have h118_3 : g_3 118 = .inl (cy 1, 12, .inl (fun x9 => nI (OH2_2 x9))) := ((congrFun eg_3 _).trans (va_up_ne _ _ (by omega))).trans h118_2
          have h119_3 : g_3 119 = .inl (cy 2, 12, .inr (.inl OO2_2)) := ((congrFun eg_3 _).trans (va_up_ne _ _ (by omega))).trans h119_2
          have h122_3 : g_3 122 = .inl (cy 1, 8, .inl (fun x9 => nI (BY x9))) := ((congrFun eg_3 _).trans (va_up_ne _ _ (by omega))).trans h122_2
          have h123_3 : g_3 123 = .inl (cy 1, 1600, .inl (fun x9 => nI (BS x9))) := ((congrFun eg_3 _).trans (va_up_ne _ _ (by omega))).trans h123_2
          have h124_3 : g_3 124 = .inl (cy 1, 1600, .inl (fun x9 => nI (BN x9))) := ((congrFun eg_3 _).trans (va_up_ne _ _ (by omega))).trans h124_2
          have h139_3 : g_3 139 = .inl (cy 1, 4, .inl (fun x9 => nI (DM x9))) := ((congrFun eg_3 _).trans (va_up_ne _ _ (by omega))).trans h139_2
          have h140_3 : g_3 140 = .inl (cy 1, 64, .inl (fun x9 => nI (DA x9))) := ((congrFun eg_3 _).trans (va_up_ne _ _ (by omega))).trans h140_2
          have hfr_3 : ∀ j : Nat, j ≠ 114 → j ≠ 115 → j ≠ 116 → j ≠ 117 → j ≠ 118 → j ≠ 119 → g_3 j = g j := fun j n0 n1 n2 n3 n4 n5 => ((congrFun eg_3 _).trans (va_up_ne _ _ n0)).trans (hfr_2 j n0 n1 n2 n3 n4 n5)
          refine lv_iload_n hx hb dX10_perform_47 rfl (lv_at hl 0 rfl) ?_
          refine lv_if_ge (tgt := 56) hx hb dX10_perform_48 (by decide) (fun c_48 => ?_) (fun c_48 => ?_)
          · skip
            have hdn : ¬ dnF (rn (FB (VV k0 c9)) (Fl (VV k0 c9)) 0 F3 (Fl (VV k0 c9))) < 0 := Int32.not_lt.mpr c_48
            refine lv_iinc (v := nI (c9 + 1)) (lv' := [(2, .int (nI (c9 + 1))), (3, .int (dnF (rn (FB (VV k0 c9)) (Fl (VV k0 c9)) 0 F3 (Fl (VV k0 c9))))), (0, .ref (ad 114)), (1, .int (nI (k0)))]) hx hb dX10_perform_56 hl (k := 1) rfl (by exact nI_add c9 1) (by decide) rfl (fun ls hl => ?_)
            refine lv_goto (tgt := 12) hx hb dX10_perform_59 (by decide) ?_
            exact ih12 (c9 + 1) ((rn (FB (VV k0 c9)) (Fl (VV k0 c9)) 0 F3 (Fl (VV k0 c9))).2.1) ((rn (FB (VV k0 c9)) (Fl (VV k0 c9)) 0 F3 (Fl (VV k0 c9))).2.1) ((rn (FB (VV k0 c9)) (Fl (VV k0 c9)) 0 F3 (Fl (VV k0 c9))).2.1) ((rn (FB (VV k0 c9)) (Fl (VV k0 c9)) 0 F3 (Fl (VV k0 c9))).2.2) P2_2 OP2_2 OF2_2 OH2_2 OO2_2 (by omega) (rn_ok hF3 _).1 (by rw [(rn_ok hF3 _).2.1]; exact hP2_2) hUR2_2 ((rn_ok hF3 _).2.1.trans hn3) (hor.trans (pfA_g (by omega) hqj.2 hdn)) (by omega) g_3 _ _ (by rw [(rn_ok (B := FB (VV k0 c9)) (len := Fl (VV k0 c9)) (b0 := 0) hF3 (Fl (VV k0 c9))).2.1]; exact h114_3) h115_3 h116_3 h117_3 h118_3 h119_3 hfr_3 hP hS _ (lv_sub hl [0, 2, 3] rfl)
          · skip
            have hdn : dnF (rn (FB (VV k0 c9)) (Fl (VV k0 c9)) 0 F3 (Fl (VV k0 c9))) < 0 := Int32.not_le.mp c_48
            refine lv_bipush (v := (-100)) hx hb dX10_perform_51 (by decide) ?_
            refine lv_iload_n hx hb dX10_perform_53 rfl (lv_at hl 1 rfl) ?_
            refine lv_isub hx hb dX10_perform_54 ?_
            have hE := hor.trans (pfA_s (by omega) hqj.2 hdn)
            have hnE : wn (rn (FB (VV k0 c9)) (Fl (VV k0 c9)) 0 F3 (Fl (VV k0 c9))).2.2.1 = wn F.1 := ((rn_ok hF3 _).2.1.trans hn3)
            exact rMi S hr hlk hP hS ⟨_, _, _, _, _, _, (by simp only [if_pos hJ, nI_clamp hk031]; rw [hE]), (by simp only [if_pos hJ, nI_clamp hk031]; rw [hE, ← hn3]; exact hP2_2), (by simp only [if_pos hJ, nI_clamp hk031]; rw [hE]; exact hUR2_2), (by simp only [if_pos hJ, nI_clamp hk031]; rw [hE, ← hn3]; exact h114_3), h115_3, h116_3, h117_3, h118_3, h119_3, hfr_3⟩ dX10_perform_55
    exact L12 ((Vl k0 - 0) + 1) 0 rf wy st F P OP OF OH OO (by omega) hF hPw hUR rfl rfl (Nat.lt_succ_self _) g _ _ hM hP9 hO1 hO2 hO3 hO4 (fun j n0 n1 n2 n3 n4 n5 => hfr j ) hP hS _ (lv_sub hl [0, 1, 2] rfl)
  · skip
    have c_5 := bz_eq.mp c_5
    have hJ : ¬ isI x0 vi := c_5
    refine lv_iconst (v := (-1)) hx hb dX10_perform_8 (by decide) ?_
    exact rMi S hr hlk hP hS ⟨_, _, _, _, _, _, (by simp only [if_neg hJ]), (by simp only [if_neg hJ]; exact hPw), (by simp only [if_neg hJ]; exact hUR), (by simp only [if_neg hJ]; exact hM), hP9, hO1, hO2, hO3, hO4, (fun j n0 n1 n2 n3 n4 n5 => hfr j )⟩ dX10_perform_9

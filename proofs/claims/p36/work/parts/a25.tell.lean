set_option maxHeartbeats 4000000 in
set_option maxRecDepth 100000 in
theorem c_X5_readToken (l : Launch) (D : va_G) (cy : Nat → ClassId) (ad : Nat → Nat) (N : Nat) (g : Nat → va_E) (hinj : ∀ i j : Nat, i < N → j < N → ad i = ad j → i = j) (sq sv : Nat) (k : Nat) (hk : k < N) (kt : Nat) (hkt : kt < N) (len : Nat) (rd : Nat) (kd : Nat) (pl0 : Nat) (vl : Int32) (T : Nat → Nat) (hg : g k = .inr (5, [.ref (ad kt), .int (nI (len)), .int (nI (rd)), .int (nI (kd)), .int (nI (pl0)), .int vl])) (hgt : g kt = .inl (cy 0, 160, .inl (fun x9 => sb_b (T x9)))) (hkk : k ≠ kt) (hlen : len ≤ 160) (hT : ∀ i, T i < 256) (hrd : rd ≤ len) : Met l yX5_readToken (WS yX5_readToken cX5_readToken 2 none) (rmF 4 91) (PPX [.ref (ad k)] D cy ad N g sq sv) (QV (fun g1 => ∃ (vl2 : Int32), (lxK T len rd < 2 → vl2 = nI (lxV T len rd)) ∧ g1 k = .inr (5, [.ref (ad kt), .int (nI (len)), .int (nI (lxN T len rd)), .int (nI (lxK T len rd)), .int (nI (lxP T len rd)), .int vl2]) ∧ (∀ j, j ≠ k → g1 j = g j)) D ad N) 0 0 (AA ad N) := by
  refine xentry (by decide) (Nat.le_of_ble_eq_true rfl) (fun p e s m below meth c ls S hr hlk hnm hP hK hXF hl => ?_)
  have S : CallFix p m c cX5_readToken 2 s _ wsL_law RX5 := S
  have hx := S.1
  have hb := S.2.1
  have hl : lv_has ls 2 [(0, .ref (ad k))] := hl
  have hI : MD (AA ad N) ad N := MD.in hinj
  have hS : va_S (AA ad N) s.heap s.heap [] := va_S.rf
  have hfr : ∀ j : Nat, g j = g j := fun _ => rfl
  refine lv_iconst (v := nI (0)) hx hb dX5_readToken_0 (by decide) ?_
  refine lv_istore_n (lv' := [(1, .int (nI (0))), (0, .ref (ad k))]) hx hb dX5_readToken_1 rfl hl (by decide) rfl (fun ls hl => ?_)
  have L2 : ∀ (fu : Nat) (j : Nat), (rd + j ≤ len) → (∀ i, rd ≤ i → i < rd + j → decide (T i ≠ 32) = false) → (len - j) < fu → ∀ (g_1 : Nat → va_E) (H : Heap) (locs : List Loc), g_1 k = .inr (5, [.ref (ad kt), .int (nI (len)), .int (nI (rd + j)), .int (nI (kd)), .int (nI (pl0)), .int vl]) → (∀ j : Nat, j ≠ k → g_1 j = g j) → MM D ad N g_1 H → va_S (AA ad N) s.heap H locs → ∀ (ls : Array Slot), lv_has ls 2 [(1, .int (nI (j))), (0, .ref (ad k))] → W p l e (rmF 4 91) s m [.ref (ad k)].toArray below meth c H locs 0 0 (MQ below (QV (fun g1 => ∃ (vl2 : Int32), (lxK T len rd < 2 → vl2 = nI (lxV T len rd)) ∧ g1 k = .inr (5, [.ref (ad kt), .int (nI (len)), .int (nI (lxN T len rd)), .int (nI (lxK T len rd)), .int (nI (lxP T len rd)), .int vl2]) ∧ (∀ j, j ≠ k → g1 j = g j)) D ad N) [.ref (ad k)].toArray s 0 0 (AA ad N)) (F0 m 2 ls []) := by
    intro fu
    induction fu with
    | zero => intro j hj hbl hms g_1 H locs hk_1 hfr_1 hP hS ls hl; exact absurd hms (Nat.not_lt_zero _)
    | succ fu ih2 =>
      intro j hj hbl hms g_1 H locs hk_1 hfr_1 hP hS ls hl
      have hkt_1 : g_1 kt = .inl (cy 0, 160, .inl (fun x9 => sb_b (T x9))) := (hfr_1 kt (by omega)).trans hgt
      refine lv_iload_n hx hb dX5_readToken_2 rfl (lv_at hl 0 rfl) ?_
      refine lv_sipush (v := nI (160)) hx hb dX5_readToken_3 (by decide) ?_
      have J38 : (lxP T len rd = rd + j) → ∀ (ls : Array Slot), lv_has ls 2 [(1, .int (nI (j))), (0, .ref (ad k))] → W p l e (rmF 4 91) s m [.ref (ad k)].toArray below meth c H locs 0 0 (MQ below (QV (fun g1 => ∃ (vl2 : Int32), (lxK T len rd < 2 → vl2 = nI (lxV T len rd)) ∧ g1 k = .inr (5, [.ref (ad kt), .int (nI (len)), .int (nI (lxN T len rd)), .int (nI (lxK T len rd)), .int (nI (lxP T len rd)), .int vl2]) ∧ (∀ j, j ≠ k → g1 j = g j)) D ad N) [.ref (ad k)].toArray s 0 0 (AA ad N)) (F0 m 38 ls []) := by
        intro hPE ls hl
        refine lv_aload_n hx hb dX5_readToken_38 rfl (lv_at hl 1 rfl) ?_
        refine lv_aload_n hx hb dX5_readToken_39 rfl (lv_at hl 1 rfl) ?_
        refine mg S hK hP hk hk_1 fd_X5_19 rfl dX5_readToken_40 ?_
        refine mp S hK hP hI hS hk hk_1 fd_X5_26 rfl rfl (Nat.le_of_ble_eq_true rfl) dX5_readToken_43 (fun g_2 H locs eg_2 hP hS => ?_)
        have hk_2 : g_2 k = .inr (5, [.ref (ad kt), .int (nI (len)), .int (nI (rd + j)), .int (nI (kd)), .int (nI (rd + j)), .int vl]) := by rw [eg_2, va_up_self]; exact rfl
        have hkt_2 : g_2 kt = .inl (cy 0, 160, .inl (fun x9 => sb_b (T x9))) := ((congrFun eg_2 _).trans (va_up_ne _ _ (by omega))).trans hkt_1
        have hfr_2 : ∀ j : Nat, j ≠ k → g_2 j = g j := fun j n0 => ((congrFun eg_2 _).trans (va_up_ne _ _ n0)).trans (hfr_1 j n0)
        refine lv_aload_n hx hb dX5_readToken_46 rfl (lv_at hl 1 rfl) ?_
        refine lv_aload_n hx hb dX5_readToken_47 rfl (lv_at hl 1 rfl) ?_
        refine mg S hK hP hk hk_2 fd_X5_19 rfl dX5_readToken_48 ?_
        refine kVi (As := [.int (nI (rd + j))]) (rest := []) S hK hP (c_X5_byteAt l D cy ad N g_2 k hk kt hkt len (rd + j) kd (rd + j) vl T hk_2 hkt_2 (by omega) hlen hT (rd + j) (by omega)) cv_X5_22 hk hk_2 ⟨_, _, rfl⟩ ⟨rfl, rfl⟩ rfl hl.1 rfl (Nat.le_of_ble_eq_true rfl) ⟨Nat.zero_le _, Nat.zero_le _⟩ dX5_readToken_51 (fun r_51 q_51 => ?_)
        subst q_51
        refine lv_istore_n (lv' := [(1, .int (byI T len (rd + j))), (0, .ref (ad k))]) hx hb dX5_readToken_54 rfl hl (by decide) rfl (fun ls hl => ?_)
        refine lv_aload_n hx hb dX5_readToken_55 rfl (lv_at hl 1 rfl) ?_
        refine lv_iload_n hx hb dX5_readToken_56 rfl (lv_at hl 0 rfl) ?_
        refine kVi (As := [.int (byI T len (rd + j))]) (rest := []) S hK hP (c_X5_isDigit l D cy ad N g_2 k (byI T len (rd + j))) cv_X5_29 hk hk_2 ⟨_, _, rfl⟩ ⟨rfl, rfl⟩ rfl hl.1 rfl (Nat.le_of_ble_eq_true rfl) ⟨Nat.zero_le _, Nat.zero_le _⟩ dX5_readToken_57 (fun r_57 q_57 => ?_)
        subst q_57
        refine tpi (ifC (byI_dg hT)) ?_
        refine lv_if_eq (tgt := 70) hx hb dX5_readToken_60 (by decide) (fun c_60 => ?_) (fun c_60 => ?_)
        · skip
          have c_60 := bz_eq.mp c_60
          refine lv_iload_n hx hb dX5_readToken_70 rfl (lv_at hl 0 rfl) ?_
          refine lv_if_ge (tgt := 82) hx hb dX5_readToken_71 (by decide) (fun c_71 => ?_) (fun c_71 => ?_)
          · skip
            have hin := (byI_ge hT).mp (Int32.not_lt.mpr c_71)
            have hdn : ¬ dg (T (rd + j)) = true := fun q => c_60 ⟨hin, q⟩
            have hTr := hT (rd + j)
            have hl : lv_has ls 2 [(1, .int (nI (T (rd + j)))), (0, .ref (ad k))] := by rw [byI_in hin] at hl; exact hl
            have hC := lxK_c (T := T) (len := len) (q := rd) (by rw [hPE]; exact hin) (by rw [hPE]; exact hdn) (by rw [hPE]; exact hTr)
            rw [hPE] at hC
            refine lv_aload_n hx hb dX5_readToken_82 rfl (lv_at hl 1 rfl) ?_
            refine lv_dup hx hb dX5_readToken_83 rfl ?_
            refine mg S hK hP hk hk_2 fd_X5_19 rfl dX5_readToken_84 ?_
            refine lv_iconst (v := nI (1)) hx hb dX5_readToken_87 (by decide) ?_
            refine lv_iadd hx hb dX5_readToken_88 ?_
            refine tpi (nI_add (rd + j) 1) ?_
            refine mp S hK hP hI hS hk hk_2 fd_X5_19 rfl rfl (Nat.le_of_ble_eq_true rfl) dX5_readToken_89 (fun g_3 H locs eg_3 hP hS => ?_)
            have hk_3 : g_3 k = .inr (5, [.ref (ad kt), .int (nI (len)), .int (nI ((rd + j) + 1)), .int (nI (kd)), .int (nI (rd + j)), .int vl]) := by rw [eg_3, va_up_self]; exact rfl
            have hkt_3 : g_3 kt = .inl (cy 0, 160, .inl (fun x9 => sb_b (T x9))) := ((congrFun eg_3 _).trans (va_up_ne _ _ (by omega))).trans hkt_2
            have hfr_3 : ∀ j : Nat, j ≠ k → g_3 j = g j := fun j n0 => ((congrFun eg_3 _).trans (va_up_ne _ _ n0)).trans (hfr_2 j n0)
            refine lv_aload_n hx hb dX5_readToken_92 rfl (lv_at hl 1 rfl) ?_
            refine va_ldcS hx hb S.2.2.2.1 hXF.2 dX5_readToken_93 ?_
            refine lv_iload_n hx hb dX5_readToken_95 rfl (lv_at hl 0 rfl) ?_
            refine lv_i2c hx hb dX5_readToken_96 rfl ?_
            refine tpi (i2c_n _ hTr) ?_
            refine kQi (As := [.int (nI (T (rd + j)))]) (rest := [.ref (ad k)]) S hXF.1 hS (c_J0_indexOf l (AA ad N) sq sv (T (rd + j)) (hT (rd + j))) cv_X5_41 ⟨rfl, rfl⟩ rfl hl.1 rfl (Nat.le_of_ble_eq_true rfl) ⟨Nat.zero_le _, Nat.zero_le _⟩ dX5_readToken_97 (fun r_97 q_97 => ?_)
            subst q_97
            refine mp S hK hP hI hS hk hk_3 fd_X5_46 rfl rfl (Nat.le_of_ble_eq_true rfl) dX5_readToken_100 (fun g_4 H locs eg_4 hP hS => ?_)
            have hk_4 : g_4 k = .inr (5, [.ref (ad kt), .int (nI (len)), .int (nI ((rd + j) + 1)), .int (nI (kd)), .int (nI (rd + j)), .int (ixS (T (rd + j)))]) := by rw [eg_4, va_up_self]; exact rfl
            have hkt_4 : g_4 kt = .inl (cy 0, 160, .inl (fun x9 => sb_b (T x9))) := ((congrFun eg_4 _).trans (va_up_ne _ _ (by omega))).trans hkt_3
            have hfr_4 : ∀ j : Nat, j ≠ k → g_4 j = g j := fun j n0 => ((congrFun eg_4 _).trans (va_up_ne _ _ n0)).trans (hfr_3 j n0)
            refine lv_aload_n hx hb dX5_readToken_103 rfl (lv_at hl 1 rfl) ?_
            refine lv_aload_n hx hb dX5_readToken_104 rfl (lv_at hl 1 rfl) ?_
            refine mg S hK hP hk hk_4 fd_X5_46 rfl dX5_readToken_105 ?_
            refine lv_if_lt (tgt := 115) hx hb dX5_readToken_108 (by decide) (fun c_108 => ?_) (fun c_108 => ?_)
            · skip
              have hix := ixS_lt.mp c_108
              rw [if_neg hix] at hC
              refine lv_aload_n hx hb dX5_readToken_115 rfl (lv_at hl 1 rfl) ?_
              refine lv_iload_n hx hb dX5_readToken_116 rfl (lv_at hl 0 rfl) ?_
              refine kVi (As := [.int (nI (T (rd + j)))]) (rest := [.ref (ad k)]) S hK hP (c_X5_kindOf l D cy ad N g_4 k (nI (T (rd + j)))) cv_X5_49 hk hk_4 ⟨_, _, rfl⟩ ⟨rfl, rfl⟩ rfl hl.1 rfl (Nat.le_of_ble_eq_true rfl) ⟨Nat.zero_le _, Nat.zero_le _⟩ dX5_readToken_117 (fun r_117 q_117 => ?_)
              subst q_117
              refine mp S hK hP hI hS hk hk_4 fd_X5_36 rfl rfl (Nat.le_of_ble_eq_true rfl) dX5_readToken_120 (fun g_5 H locs eg_5 hP hS => ?_)
              have hk_5 : g_5 k = .inr (5, [.ref (ad kt), .int (nI (len)), .int (nI ((rd + j) + 1)), .int (nI (knd (nI (T (rd + j))))), .int (nI (rd + j)), .int (ixS (T (rd + j)))]) := by rw [eg_5, va_up_self]; exact rfl
              have hkt_5 : g_5 kt = .inl (cy 0, 160, .inl (fun x9 => sb_b (T x9))) := ((congrFun eg_5 _).trans (va_up_ne _ _ (by omega))).trans hkt_4
              have hfr_5 : ∀ j : Nat, j ≠ k → g_5 j = g j := fun j n0 => ((congrFun eg_5 _).trans (va_up_ne _ _ n0)).trans (hfr_4 j n0)
              exact rMv S hr hlk hP hS ⟨_, (fun z => by have y9 := hC.1; have y8 := knd_2 (nI (T (rd + j))); omega), (by rw [hC.2.1, hC.1, hPE]; exact hk_5), hfr_5⟩ dX5_readToken_123
            · skip
              have hix : ixL (T (rd + j)) < 7 := Decidable.byContradiction (fun q => c_108 (ixS_lt.mpr q))
              rw [if_pos hix] at hC
              refine lv_iconst (v := nI (0)) hx hb dX5_readToken_111 (by decide) ?_
              refine lv_goto (tgt := 120) hx hb dX5_readToken_112 (by decide) ?_
              refine mp S hK hP hI hS hk hk_4 fd_X5_36 rfl rfl (Nat.le_of_ble_eq_true rfl) dX5_readToken_120 (fun g_6 H locs eg_6 hP hS => ?_)
              have hk_6 : g_6 k = .inr (5, [.ref (ad kt), .int (nI (len)), .int (nI ((rd + j) + 1)), .int (nI (0)), .int (nI (rd + j)), .int (ixS (T (rd + j)))]) := by rw [eg_6, va_up_self]; exact rfl
              have hkt_6 : g_6 kt = .inl (cy 0, 160, .inl (fun x9 => sb_b (T x9))) := ((congrFun eg_6 _).trans (va_up_ne _ _ (by omega))).trans hkt_4
              have hfr_6 : ∀ j : Nat, j ≠ k → g_6 j = g j := fun j n0 => ((congrFun eg_6 _).trans (va_up_ne _ _ n0)).trans (hfr_4 j n0)
              exact rMv S hr hlk hP hS ⟨_, (fun _ => (ixS_n hix).trans (congrArg nI hC.2.2.symm)), (by rw [hC.2.1, hC.1, hPE]; exact hk_6), hfr_6⟩ dX5_readToken_123
          · skip
            have hou : ¬ rd + j < len := fun q => c_71 (Int32.not_lt.mp ((byI_ge hT).mpr q))
            have hE := lxK_e (T := T) (len := len) (q := rd) (by rw [hPE]; exact hou)
            refine lv_aload_n hx hb dX5_readToken_74 rfl (lv_at hl 1 rfl) ?_
            refine lv_iconst (v := nI (5)) hx hb dX5_readToken_75 (by decide) ?_
            refine mp S hK hP hI hS hk hk_2 fd_X5_36 rfl rfl (Nat.le_of_ble_eq_true rfl) dX5_readToken_76 (fun g_7 H locs eg_7 hP hS => ?_)
            have hk_7 : g_7 k = .inr (5, [.ref (ad kt), .int (nI (len)), .int (nI (rd + j)), .int (nI (5)), .int (nI (rd + j)), .int vl]) := by rw [eg_7, va_up_self]; exact rfl
            have hkt_7 : g_7 kt = .inl (cy 0, 160, .inl (fun x9 => sb_b (T x9))) := ((congrFun eg_7 _).trans (va_up_ne _ _ (by omega))).trans hkt_2
            have hfr_7 : ∀ j : Nat, j ≠ k → g_7 j = g j := fun j n0 => ((congrFun eg_7 _).trans (va_up_ne _ _ n0)).trans (hfr_2 j n0)
            refine lv_goto (tgt := 123) hx hb dX5_readToken_79 (by decide) ?_
            exact rMv S hr hlk hP hS ⟨_, (fun z => by have y9 := hE.1; omega), (by rw [hE.2, hE.1, hPE]; exact hk_7), hfr_7⟩ dX5_readToken_123
        · skip
          have c_60 := bz_ne.mp c_60
          have hD := lxK_d (T := T) (len := len) (q := rd) (by rw [hPE]; exact c_60.1) (by rw [hPE]; exact c_60.2)
          rw [hPE] at hD
          refine lv_aload_n hx hb dX5_readToken_63 rfl (lv_at hl 1 rfl) ?_
          refine kMv (As := []) (rest := []) S hK hP hS (fun _ h => h) (c_X5_readNumber l D cy ad N g_2 hinj k hk kt hkt len (rd + j) kd (rd + j) vl T hk_2 hkt_2 (by omega) hlen hT c_60.1 c_60.2) cv_X5_33 hk hk_2 ⟨_, _, rfl⟩ ⟨rfl, rfl⟩ rfl hl.1 rfl (Nat.le_of_ble_eq_true rfl) ⟨Nat.zero_le _, Nat.zero_le _⟩ dX5_readToken_64 (fun g_8 H locs q_8 hP hS => ?_)
          obtain ⟨hk_8, f_8⟩ := q_8
          have hkt_8 : g_8 kt = .inl (cy 0, 160, .inl (fun x9 => sb_b (T x9))) := (f_8 kt (by omega)).trans hkt_2
          have hfr_8 : ∀ j : Nat, j ≠ k → g_8 j = g j := fun j n0 => (f_8 j n0).trans (hfr_2 j n0)
          refine lv_goto (tgt := 123) hx hb dX5_readToken_67 (by decide) ?_
          exact rMv S hr hlk hP hS ⟨_, (fun _ => congrArg nI hD.2.2.symm), (by rw [hD.2.1, hD.1, hPE]; exact hk_8), hfr_8⟩ dX5_readToken_123
      refine lv_icmp_ge (tgt := 38) hx hb dX5_readToken_6 (by decide) (fun c_6 => ?_) (fun c_6 => ?_)
      · skip
        have c_6 := (nI_leI (by omega) (by omega)).mp c_6
        exact J38 (by have e : rd + j = len := (by omega); rw [e]; exact fsr_none hrd (fun i x y => hbl i x (by omega))) _ (lv_sub hl [0, 1] rfl)
      · skip
        have c_6 := (not_congr (nI_leI (by omega) (by omega))).mp c_6
        refine lv_aload_n hx hb dX5_readToken_9 rfl (lv_at hl 1 rfl) ?_
        refine lv_aload_n hx hb dX5_readToken_10 rfl (lv_at hl 1 rfl) ?_
        refine mg S hK hP hk hk_1 fd_X5_19 rfl dX5_readToken_11 ?_
        refine kVi (As := [.int (nI (rd + j))]) (rest := []) S hK hP (c_X5_byteAt l D cy ad N g_1 k hk kt hkt len (rd + j) kd pl0 vl T hk_1 hkt_1 (by omega) hlen hT (rd + j) (by omega)) cv_X5_22 hk hk_1 ⟨_, _, rfl⟩ ⟨rfl, rfl⟩ rfl hl.1 rfl (Nat.le_of_ble_eq_true rfl) ⟨Nat.zero_le _, Nat.zero_le _⟩ dX5_readToken_14 (fun r_14 q_14 => ?_)
        subst q_14
        refine lv_bipush (v := nI (32)) hx hb dX5_readToken_17 (by decide) ?_
        refine lv_icmp_ne (tgt := 38) hx hb dX5_readToken_19 (by decide) (fun c_19 => ?_) (fun c_19 => ?_)
        · skip
          have h32 := fun q => c_19 ((byI_32 hT).mpr q)
          exact J38 (by rcases Nat.lt_or_ge (rd + j) len with q | q; exact fsr_stop (by omega) (by omega) hbl (decide_eq_true (fun z => h32 ⟨q, z⟩)); (have e : rd + j = len := (by omega); rw [e]; exact fsr_none hrd (fun i x y => hbl i x (by omega)))) _ (lv_sub hl [0, 1] rfl)
        · skip
          have h32 := (byI_32 hT).mp c_19
          refine lv_aload_n hx hb dX5_readToken_22 rfl (lv_at hl 1 rfl) ?_
          refine lv_dup hx hb dX5_readToken_23 rfl ?_
          refine mg S hK hP hk hk_1 fd_X5_19 rfl dX5_readToken_24 ?_
          refine lv_iconst (v := nI (1)) hx hb dX5_readToken_27 (by decide) ?_
          refine lv_iadd hx hb dX5_readToken_28 ?_
          refine tpi (nI_add (rd + j) 1) ?_
          refine mp S hK hP hI hS hk hk_1 fd_X5_19 rfl rfl (Nat.le_of_ble_eq_true rfl) dX5_readToken_29 (fun g_9 H locs eg_9 hP hS => ?_)
          have hk_9 : g_9 k = .inr (5, [.ref (ad kt), .int (nI (len)), .int (nI ((rd + j) + 1)), .int (nI (kd)), .int (nI (pl0)), .int vl]) := by rw [eg_9, va_up_self]; exact rfl
          have hkt_9 : g_9 kt = .inl (cy 0, 160, .inl (fun x9 => sb_b (T x9))) := ((congrFun eg_9 _).trans (va_up_ne _ _ (by omega))).trans hkt_1
          have hfr_9 : ∀ j : Nat, j ≠ k → g_9 j = g j := fun j n0 => ((congrFun eg_9 _).trans (va_up_ne _ _ n0)).trans (hfr_1 j n0)
          refine lv_iinc (v := nI (j + 1)) (lv' := [(1, .int (nI (j + 1))), (0, .ref (ad k))]) hx hb dX5_readToken_32 hl (k := 0) rfl (by exact nI_add j 1) (by decide) rfl (fun ls hl => ?_)
          refine lv_goto (tgt := 2) hx hb dX5_readToken_35 (by decide) ?_
          exact ih2 (j + 1) (by omega) (fun i x y => by rcases Nat.lt_or_ge i (rd + j) with q | q; exact hbl i x q; (have e : i = rd + j := (by omega); rw [e, h32.2]; rfl)) (by omega) g_9 _ _ hk_9 hfr_9 hP hS _ (lv_sub hl [0, 1] rfl)
  exact L2 ((len - 0) + 1) 0 (by omega) (fun i a b => by omega) (Nat.lt_succ_self _) g _ _ hg (fun j n0 => hfr j ) hP hS _ (lv_sub hl [0, 1] rfl)


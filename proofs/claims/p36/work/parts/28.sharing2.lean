set_option maxHeartbeats 4000000 in
set_option maxRecDepth 100000 in
theorem c_X3_measure (l : Launch) (D : va_G) (cy : Nat → ClassId) (ad : Nat → Nat) (N : Nat) (g : Nat → va_E) (hinj : ∀ i j : Nat, i < N → j < N → ad i = ad j → i = j) (b : Nat) (hbN : b + 21 ≤ N) (hg : g b = .inr (3, [.ref (ad (b + 1)), .ref (ad (b + 19))])) (rfn : Nat → Option Nat) (hgo : g (b + 1) = .inl (cy 7, 17, .inr (.inr (.inr (.inr rfn))))) (hrf : ∀ j, j < 17 → rfn j = some (ad (b + 2 + j))) (Lm : Nat → Nat → Nat) (hLm : (∀ j : Nat, j < 17 → g (b + 2 + j) = .inl (cy 1, 17, .inl (fun x9 => nI ((Lm j) x9))))) (hLmb : ∀ i j, Lm i j ≤ 100) (k1 : Nat) (hk1 : k1 < N) (kv1 : Nat) (hkv1 : kv1 < N) (n1 : Nat) (V1 : Nat → Nat) (hv1 : g k1 = .inr (7, [.ref (ad kv1), .int (nI (n1))])) (hvv1 : g kv1 = .inl (cy 1, 16, .inl (fun x9 => nI (V1 x9)))) (hk1kv : k1 ≠ kv1) (hn1 : n1 ≤ 16) (hV1 : ∀ i, V1 i < 8) (hko1 : (k1 < b ∨ b + 21 ≤ k1) ∧ (kv1 < b ∨ b + 21 ≤ kv1)) (k2 : Nat) (hk2 : k2 < N) (kv2 : Nat) (hkv2 : kv2 < N) (n2 : Nat) (V2 : Nat → Nat) (hv2 : g k2 = .inr (7, [.ref (ad kv2), .int (nI (n2))])) (hvv2 : g kv2 = .inl (cy 1, 16, .inl (fun x9 => nI (V2 x9)))) (hk2kv : k2 ≠ kv2) (hn2 : n2 ≤ 16) (hV2 : ∀ i, V2 i < 8) (hko2 : (k2 < b ∨ b + 21 ≤ k2) ∧ (kv2 < b ∨ b + 21 ≤ kv2)) : Met l yX3_measure (WS yX3_measure cX3_measure 5 none) (rmF 2 45) (PP [.ref (ad b), .ref (ad k1), .ref (ad k2)] D cy ad N g) (QV (fun g1 => ∃ (Lr : Nat → Nat → Nat), ((∀ a x, a < 17 → x < 17 → Lr a x = lc V1 V2 n1 n2 a x)) ∧ (∀ a x, Lr a x ≤ 100) ∧ (∀ j : Nat, j < 17 → g1 (b + 2 + j) = .inl (cy 1, 17, .inl (fun x9 => nI ((Lr j) x9)))) ∧ (∀ j, (j < b + 2 ∨ b + 19 ≤ j) → g1 j = g j)) D ad N) 0 0 (AA ad N) := by
  refine mentry (by decide) (Nat.le_of_ble_eq_true rfl) (fun p e s m below meth c ls S hr hlk hnm hP hK hl => ?_)
  have S : CallFix p m c cX3_measure 5 s _ wsL_law RX3 := S
  have hx := S.1
  have hb := S.2.1
  have hl : lv_has ls 5 [(0, .ref (ad b)), (1, .ref (ad k1)), (2, .ref (ad k2))] := hl
  have hI : MD (AA ad N) ad N := MD.in hinj
  have hS : va_S (AA ad N) s.heap s.heap [] := va_S.rf
  have hfr : ∀ j : Nat, g j = g j := fun _ => rfl
  refine lv_bipush (v := nI (16)) hx hb dX3_measure_0 (by decide) ?_
  refine lv_istore_n (lv' := [(3, .int (nI (16))), (0, .ref (ad b)), (1, .ref (ad k1)), (2, .ref (ad k2))]) hx hb dX3_measure_2 rfl hl (by decide) rfl (fun ls hl => ?_)
  have L3 : ∀ (fu : Nat) (c1 : Nat) (z1 : Int32) (Lq : Nat → Nat → Nat), (c1 ≤ 17) → (z1 = dI c1) → (∀ a, c1 ≤ a → a < 17 → ∀ x, x < 17 → Lq a x = lc V1 V2 n1 n2 a x) → (∀ a x, Lq a x ≤ 100) → c1 < fu → ∀ (g_1 : Nat → va_E) (H : Heap) (locs : List Loc), (∀ j : Nat, j < 17 → g_1 (b + 2 + j) = .inl (cy 1, 17, .inl (fun x9 => nI ((Lq j) x9)))) → (∀ j : Nat, (j < b + 2 ∨ b + 19 ≤ j) → g_1 j = g j) → MM D ad N g_1 H → va_S (AA ad N) s.heap H locs → ∀ (ls : Array Slot), lv_has ls 5 [(3, .int z1), (0, .ref (ad b)), (1, .ref (ad k1)), (2, .ref (ad k2))] → W p l e (rmF 2 45) s m [.ref (ad b), .ref (ad k1), .ref (ad k2)].toArray below meth c H locs 0 0 (MQ below (QV (fun g1 => ∃ (Lr : Nat → Nat → Nat), ((∀ a x, a < 17 → x < 17 → Lr a x = lc V1 V2 n1 n2 a x)) ∧ (∀ a x, Lr a x ≤ 100) ∧ (∀ j : Nat, j < 17 → g1 (b + 2 + j) = .inl (cy 1, 17, .inl (fun x9 => nI ((Lr j) x9)))) ∧ (∀ j, (j < b + 2 ∨ b + 19 ≤ j) → g1 j = g j)) D ad N) [.ref (ad b), .ref (ad k1), .ref (ad k2)].toArray s 0 0 (AA ad N)) (F0 m 3 ls []) := by
    intro fu
    induction fu with
    | zero => intro c1 z1 Lq hc1 hz1 hdn hLq hms g_1 H locs hfam_R_1 hfr_1 hP hS ls hl; exact absurd hms (Nat.not_lt_zero _)
    | succ fu ih3 =>
      intro c1 z1 Lq hc1 hz1 hdn hLq hms g_1 H locs hfam_R_1 hfr_1 hP hS ls hl
      have hb_1 : g_1 b = .inr (3, [.ref (ad (b + 1)), .ref (ad (b + 19))]) := (hfr_1 b (by omega)).trans hg
      have hb___1_1 : g_1 (b + 1) = .inl (cy 7, 17, .inr (.inr (.inr (.inr rfn)))) := (hfr_1 (b + 1) (by omega)).trans hgo
      have hk1_1 : g_1 k1 = .inr (7, [.ref (ad kv1), .int (nI (n1))]) := (hfr_1 k1 (by omega)).trans hv1
      have hkv1_1 : g_1 kv1 = .inl (cy 1, 16, .inl (fun x9 => nI (V1 x9))) := (hfr_1 kv1 (by omega)).trans hvv1
      have hk2_1 : g_1 k2 = .inr (7, [.ref (ad kv2), .int (nI (n2))]) := (hfr_1 k2 (by omega)).trans hv2
      have hkv2_1 : g_1 kv2 = .inl (cy 1, 16, .inl (fun x9 => nI (V2 x9))) := (hfr_1 kv2 (by omega)).trans hvv2
      refine lv_iload_n hx hb dX3_measure_3 rfl (lv_at hl 0 rfl) ?_
      refine lv_if_lt (tgt := 67) hx hb dX3_measure_4 (by decide) (fun c_4 => ?_) (fun c_4 => ?_)
      · skip
        exact rMv S hr hlk hP hS ⟨Lq, (fun a x h1 h2 => hdn a (by have := dI_neg (by omega) hz1 c_4; omega) h1 x h2), hLq, hfam_R_1, hfr_1⟩ dX3_measure_67
      · skip
        obtain ⟨i, hic⟩ := dI_pos hz1 c_4
        subst hic
        have hiz := hz1.trans (dI_s i)
        subst hiz
        refine lv_bipush (v := nI (16)) hx hb dX3_measure_7 (by decide) ?_
        refine lv_istore (lv' := [(4, .int (nI (16))), (3, .int (nI (i))), (0, .ref (ad b)), (1, .ref (ad k1)), (2, .ref (ad k2))]) hx hb dX3_measure_9 hl (by decide) rfl (fun ls hl => ?_)
        have L11 : ∀ (fu : Nat) (c2 : Nat) (z2 : Int32) (Lp : Nat → Nat → Nat), (c2 ≤ 17) → (z2 = dI c2) → (∀ a, i + 1 ≤ a → a < 17 → ∀ x, x < 17 → Lp a x = lc V1 V2 n1 n2 a x) → (∀ x, c2 ≤ x → x < 17 → Lp i x = lc V1 V2 n1 n2 i x) → (∀ a x, Lp a x ≤ 100) → c2 < fu → ∀ (g_2 : Nat → va_E) (H : Heap) (locs : List Loc), (∀ j : Nat, j < 17 → g_2 (b + 2 + j) = .inl (cy 1, 17, .inl (fun x9 => nI ((Lp j) x9)))) → (∀ j : Nat, (j < b + 2 ∨ b + 19 ≤ j) → g_2 j = g j) → MM D ad N g_2 H → va_S (AA ad N) s.heap H locs → ∀ (ls : Array Slot), lv_has ls 5 [(4, .int z2), (3, .int (nI (i))), (0, .ref (ad b)), (1, .ref (ad k1)), (2, .ref (ad k2))] → W p l e (rmF 2 45) s m [.ref (ad b), .ref (ad k1), .ref (ad k2)].toArray below meth c H locs 0 0 (MQ below (QV (fun g1 => ∃ (Lr : Nat → Nat → Nat), ((∀ a x, a < 17 → x < 17 → Lr a x = lc V1 V2 n1 n2 a x)) ∧ (∀ a x, Lr a x ≤ 100) ∧ (∀ j : Nat, j < 17 → g1 (b + 2 + j) = .inl (cy 1, 17, .inl (fun x9 => nI ((Lr j) x9)))) ∧ (∀ j, (j < b + 2 ∨ b + 19 ≤ j) → g1 j = g j)) D ad N) [.ref (ad b), .ref (ad k1), .ref (ad k2)].toArray s 0 0 (AA ad N)) (F0 m 11 ls []) := by
          intro fu
          induction fu with
          | zero => intro c2 z2 Lp hc2 hz2 hdn2 hdn3 hLp hms g_2 H locs hfam_R_2 hfr_2 hP hS ls hl; exact absurd hms (Nat.not_lt_zero _)
          | succ fu ih11 =>
            intro c2 z2 Lp hc2 hz2 hdn2 hdn3 hLp hms g_2 H locs hfam_R_2 hfr_2 hP hS ls hl
            have hb_2 : g_2 b = .inr (3, [.ref (ad (b + 1)), .ref (ad (b + 19))]) := (hfr_2 b (by omega)).trans hg
            have hb___1_2 : g_2 (b + 1) = .inl (cy 7, 17, .inr (.inr (.inr (.inr rfn)))) := (hfr_2 (b + 1) (by omega)).trans hgo
            have hk1_2 : g_2 k1 = .inr (7, [.ref (ad kv1), .int (nI (n1))]) := (hfr_2 k1 (by omega)).trans hv1
            have hkv1_2 : g_2 kv1 = .inl (cy 1, 16, .inl (fun x9 => nI (V1 x9))) := (hfr_2 kv1 (by omega)).trans hvv1
            have hk2_2 : g_2 k2 = .inr (7, [.ref (ad kv2), .int (nI (n2))]) := (hfr_2 k2 (by omega)).trans hv2
            have hkv2_2 : g_2 kv2 = .inl (cy 1, 16, .inl (fun x9 => nI (V2 x9))) := (hfr_2 kv2 (by omega)).trans hvv2
            refine lv_iload hx hb dX3_measure_11 (lv_at hl 0 rfl) ?_
            refine lv_if_lt (tgt := 61) hx hb dX3_measure_13 (by decide) (fun c_13 => ?_) (fun c_13 => ?_)
            · skip
              refine lv_iinc (v := dI i) (lv' := [(3, .int (dI i)), (4, .int z2), (0, .ref (ad b)), (1, .ref (ad k1)), (2, .ref (ad k2))]) hx hb dX3_measure_61 hl (k := 1) rfl rfl (by decide) rfl (fun ls hl => ?_)
              refine lv_goto (tgt := 3) hx hb dX3_measure_64 (by decide) ?_
              exact ih3 i (dI i) Lp (by omega) rfl (fun a h1 h2 x hx9 => by have ec : c2 = 0 := dI_neg (by omega) hz2 c_13; rcases Nat.lt_or_ge i a with q | q; exact hdn2 a (by omega) h2 x hx9; rw [show a = i by omega]; exact hdn3 x (by omega) hx9) hLp (by omega) g_2 _ _ hfam_R_2 hfr_2 hP hS _ (lv_sub hl [0, 2, 3, 4] rfl)
            · skip
              obtain ⟨jj, hjjc⟩ := dI_pos hz2 c_13
              subst hjjc
              have hjjz := hz2.trans (dI_s jj)
              subst hjjz
              refine lv_aload_n hx hb dX3_measure_16 rfl (lv_at hl 2 rfl) ?_
              refine mg S hK hP (by omega) hb_2 fd_X3_11 rfl dX3_measure_17 ?_
              refine lv_iload_n hx hb dX3_measure_20 rfl (lv_at hl 1 rfl) ?_
              have hrow_2 : i < 17 := by omega
              have hfc_3 : g_2 (b + 2 + i) = .inl (cy 1, 17, .inl (fun x9 => nI ((Lp i) x9))) := hfam_R_2 i hrow_2
              refine mial7A S hK hP (by omega) hb___1_2 rfl (vp_in_nI (by omega) (by omega)) (a := ad (b + 2 + i)) ((congrArg rfn (nI_clamp (by omega))).trans (hrf _ hrow_2)) dX3_measure_21 ?_
              refine lv_iload hx hb dX3_measure_22 (lv_at hl 0 rfl) ?_
              refine lv_iload_n hx hb dX3_measure_24 rfl (lv_at hl 1 rfl) ?_
              refine lv_aload_n hx hb dX3_measure_25 rfl (lv_at hl 3 rfl) ?_
              refine mg S hK hP hk1 hk1_2 fd_X3_27 rfl dX3_measure_26 ?_
              have J54 : ∀ (zz : Nat), (zz = lc V1 V2 n1 n2 i jj) → (zz ≤ 100) → ∀ (ls : Array Slot), lv_has ls 5 [(4, .int (nI (jj))), (3, .int (nI (i))), (0, .ref (ad b)), (1, .ref (ad k1)), (2, .ref (ad k2))] → W p l e (rmF 2 45) s m [.ref (ad b), .ref (ad k1), .ref (ad k2)].toArray below meth c H locs 0 0 (MQ below (QV (fun g1 => ∃ (Lr : Nat → Nat → Nat), ((∀ a x, a < 17 → x < 17 → Lr a x = lc V1 V2 n1 n2 a x)) ∧ (∀ a x, Lr a x ≤ 100) ∧ (∀ j : Nat, j < 17 → g1 (b + 2 + j) = .inl (cy 1, 17, .inl (fun x9 => nI ((Lr j) x9)))) ∧ (∀ j, (j < b + 2 ∨ b + 19 ≤ j) → g1 j = g j)) D ad N) [.ref (ad b), .ref (ad k1), .ref (ad k2)].toArray s 0 0 (AA ad N)) (F0 m 54 ls [.int (nI (zz)), .int (nI (jj)), .ref (ad (b + 2 + i))]) := by
                intro zz hzz hzb ls hl
                refine mias S hK hP hI hS (by omega) hfc_3 (vp_in_nI (by omega) (by omega)) dX3_measure_54 (fun g_4 H locs eg_4 hP hS => ?_)
                have hb___2___i_4 : g_4 (b + 2 + i) = .inl (cy 1, 17, .inl (fun x9 => nI ((va_up (Lp i) jj zz) x9))) := by rw [eg_4, va_up_self]; exact (arrN_up (by omega))
                have hb_4 : g_4 b = .inr (3, [.ref (ad (b + 1)), .ref (ad (b + 19))]) := ((congrFun eg_4 _).trans (va_up_ne _ _ (by omega))).trans hb_2
                have hb___1_4 : g_4 (b + 1) = .inl (cy 7, 17, .inr (.inr (.inr (.inr rfn)))) := ((congrFun eg_4 _).trans (va_up_ne _ _ (by omega))).trans hb___1_2
                have hk1_4 : g_4 k1 = .inr (7, [.ref (ad kv1), .int (nI (n1))]) := ((congrFun eg_4 _).trans (va_up_ne _ _ (by omega))).trans hk1_2
                have hkv1_4 : g_4 kv1 = .inl (cy 1, 16, .inl (fun x9 => nI (V1 x9))) := ((congrFun eg_4 _).trans (va_up_ne _ _ (by omega))).trans hkv1_2
                have hk2_4 : g_4 k2 = .inr (7, [.ref (ad kv2), .int (nI (n2))]) := ((congrFun eg_4 _).trans (va_up_ne _ _ (by omega))).trans hk2_2
                have hkv2_4 : g_4 kv2 = .inl (cy 1, 16, .inl (fun x9 => nI (V2 x9))) := ((congrFun eg_4 _).trans (va_up_ne _ _ (by omega))).trans hkv2_2
                have hfam_R_4 : (∀ j : Nat, j < 17 → g_4 (b + 2 + j) = .inl (cy 1, 17, .inl (fun x9 => nI (((va_up Lp i (va_up (Lp i) jj zz)) j) x9)))) := fam_up (id := fun j => b + 2 + j) (cell := fun j (w9 : Nat → Nat) => .inl (cy 1, 17, .inl (fun x9 => nI (w9 x9)))) (fun j hj e => ((congrFun eg_4 _).trans (va_up_ne _ _ (by omega))).trans (hfam_R_2 j hj)) hb___2___i_4
                have hfr_4 : ∀ j : Nat, (j < b + 2 ∨ b + 19 ≤ j) → j ≠ (b + 2 + i) → g_4 j = g j := fun j n0 n1 => ((congrFun eg_4 _).trans (va_up_ne _ _ n1)).trans (hfr_2 j n0)
                refine lv_iinc (v := dI jj) (lv' := [(4, .int (dI jj)), (3, .int (nI (i))), (0, .ref (ad b)), (1, .ref (ad k1)), (2, .ref (ad k2))]) hx hb dX3_measure_55 hl (k := 0) rfl rfl (by decide) rfl (fun ls hl => ?_)
                refine lv_goto (tgt := 11) hx hb dX3_measure_58 (by decide) ?_
                exact ih11 jj (dI jj) (va_up Lp i (va_up (Lp i) jj zz)) (by omega) rfl (lq_1 hdn2) (lq_2 hdn3 hzz) (lq_3 hLp hzb) (by omega) g_4 _ _ hfam_R_4 (fun j n0 => hfr_4 j (by omega) (by omega)) hP hS _ (lv_sub hl [0, 1, 2, 3, 4] rfl)
              refine lv_icmp_ge (tgt := 53) hx hb dX3_measure_29 (by decide) (fun c_29 => ?_) (fun c_29 => ?_)
              · skip
                have c_29 := (nI_leI (by omega) (by omega)).mp c_29
                refine lv_iconst (v := nI (0)) hx hb dX3_measure_53 (by decide) ?_
                exact J54 0 (lc_out (by omega)).symm (by omega) _ (lv_sub hl [0, 1, 2, 3, 4] rfl)
              · skip
                have c_29 := (not_congr (nI_leI (by omega) (by omega))).mp c_29
                refine lv_iload hx hb dX3_measure_32 (lv_at hl 0 rfl) ?_
                refine lv_aload_n hx hb dX3_measure_34 rfl (lv_at hl 4 rfl) ?_
                refine mg S hK hP hk2 hk2_2 fd_X3_27 rfl dX3_measure_35 ?_
                refine lv_icmp_ge (tgt := 53) hx hb dX3_measure_38 (by decide) (fun c_38 => ?_) (fun c_38 => ?_)
                · skip
                  have c_38 := (nI_leI (by omega) (by omega)).mp c_38
                  refine lv_iconst (v := nI (0)) hx hb dX3_measure_53 (by decide) ?_
                  exact J54 0 (lc_out (by omega)).symm (by omega) _ (lv_sub hl [0, 1, 2, 3, 4] rfl)
                · skip
                  have c_38 := (not_congr (nI_leI (by omega) (by omega))).mp c_38
                  refine lv_aload_n hx hb dX3_measure_41 rfl (lv_at hl 2 rfl) ?_
                  refine lv_aload_n hx hb dX3_measure_42 rfl (lv_at hl 3 rfl) ?_
                  refine lv_iload_n hx hb dX3_measure_43 rfl (lv_at hl 1 rfl) ?_
                  refine lv_aload_n hx hb dX3_measure_44 rfl (lv_at hl 4 rfl) ?_
                  refine lv_iload hx hb dX3_measure_45 (lv_at hl 0 rfl) ?_
                  refine kVi (As := [.ref (ad k1), .int (nI (i)), .ref (ad k2), .int (nI (jj))]) (rest := [.int (nI (jj)), .ref (ad (b + 2 + i))]) S hK hP (c_X3_lengthAt l D cy ad N g_2 b (by omega) hb_2 rfn hb___1_2 hrf Lp hfam_R_2 hLp k1 hk1 kv1 hkv1 n1 V1 hk1_2 hkv1_2 hk1kv hn1 hV1 hko1 k2 hk2 kv2 hkv2 n2 V2 hk2_2 hkv2_2 hk2kv hn2 hV2 hko2 i jj (by omega) (by omega) (hdn2 (i + 1) (by omega) (by omega) (jj + 1) (by omega)) (hdn2 (i + 1) (by omega) (by omega) jj (by omega)) (hdn3 (jj + 1) (by omega) (by omega))) cv_X3_43 (by omega) hb_2 ⟨_, _, rfl⟩ ⟨rfl, rfl⟩ rfl hl.1 rfl (Nat.le_of_ble_eq_true rfl) ⟨Nat.zero_le _, Nat.zero_le _⟩ dX3_measure_47 (fun r_47 q_47 => ?_)
                  subst q_47
                  refine lv_goto (tgt := 54) hx hb dX3_measure_50 (by decide) ?_
                  exact J54 (lc V1 V2 n1 n2 i jj) rfl (by have := lc_le' (V1 := V1) (V2 := V2) (n1 := n1) (n2 := n2) (i := i) (j := jj); omega) _ (lv_sub hl [0, 1, 2, 3, 4] rfl)
        exact L11 (17 + 1) 17 (nI (16)) Lq (by omega) rfl (fun a h1 h2 => hdn a (by omega) h2) (fun x h1 h2 => by omega) hLq (Nat.lt_succ_self _) g_1 _ _ hfam_R_1 hfr_1 hP hS _ (lv_sub hl [0, 1, 2, 3, 4] rfl)
  exact L3 (17 + 1) 17 (nI (16)) Lm (by omega) rfl (fun a h1 h2 => by omega) hLmb (Nat.lt_succ_self _) g _ _ hLm (fun j n0 => hfr j ) hP hS _ (lv_sub hl [0, 1, 2, 3] rfl)
set_option maxHeartbeats 4000000 in
set_option maxRecDepth 100000 in
theorem c_X3_leastNext (l : Launch) (D : va_G) (cy : Nat → ClassId) (ad : Nat → Nat) (N : Nat) (g : Nat → va_E) (b : Nat) (hbN : b + 21 ≤ N) (hg : g b = .inr (3, [.ref (ad (b + 1)), .ref (ad (b + 19))])) (rfn : Nat → Option Nat) (hgo : g (b + 1) = .inl (cy 7, 17, .inr (.inr (.inr (.inr rfn))))) (hrf : ∀ j, j < 17 → rfn j = some (ad (b + 2 + j))) (Lm : Nat → Nat → Nat) (hLm : (∀ j : Nat, j < 17 → g (b + 2 + j) = .inl (cy 1, 17, .inl (fun x9 => nI ((Lm j) x9))))) (hLmb : ∀ i j, Lm i j ≤ 100) (k1 : Nat) (hk1 : k1 < N) (kv1 : Nat) (hkv1 : kv1 < N) (n1 : Nat) (V1 : Nat → Nat) (hv1 : g k1 = .inr (7, [.ref (ad kv1), .int (nI (n1))])) (hvv1 : g kv1 = .inl (cy 1, 16, .inl (fun x9 => nI (V1 x9)))) (hk1kv : k1 ≠ kv1) (hn1 : n1 ≤ 16) (hV1 : ∀ i, V1 i < 8) (hko1 : (k1 < b ∨ b + 21 ≤ k1) ∧ (kv1 < b ∨ b + 21 ≤ kv1)) (k2 : Nat) (hk2 : k2 < N) (kv2 : Nat) (hkv2 : kv2 < N) (n2 : Nat) (V2 : Nat → Nat) (hv2 : g k2 = .inr (7, [.ref (ad kv2), .int (nI (n2))])) (hvv2 : g kv2 = .inl (cy 1, 16, .inl (fun x9 => nI (V2 x9)))) (hk2kv : k2 ≠ kv2) (hn2 : n2 ≤ 16) (hV2 : ∀ i, V2 i < 8) (hko2 : (k2 < b ∨ b + 21 ≤ k2) ∧ (kv2 < b ∨ b + 21 ≤ kv2)) (hLc : ∀ a x, a < 17 → x < 17 → Lm a x = lc V1 V2 n1 n2 a x) (i : Nat) (j : Nat) (ln9 : Nat) (hi : i ≤ n1) (hj : j ≤ n2) (hl9 : 0 < ln9 ∧ ln9 ≤ 100) (hex : ∃ f, f < 8 ∧ lnP V1 V2 n1 n2 i j ln9 f = true) : Met l yX3_leastNext (WS yX3_leastNext cX3_leastNext 9 (some .int)) (rmF 2 44) (PP [.ref (ad b), .ref (ad k1), .int (nI (i)), .ref (ad k2), .int (nI (j)), .int (nI (ln9))] D cy ad N g) (vp_Si (fun r => r = nI (lnf V1 V2 n1 n2 i j ln9))) 0 0 (fun _ => False) := by
  refine mentry (by decide) (Nat.le_of_ble_eq_true rfl) (fun p e s m below meth c ls S hr hlk hnm hP hK hl => ?_)
  have S : CallFix p m c cX3_leastNext 9 s _ wsL_law RX3 := S
  have hx := S.1
  have hb := S.2.1
  have hl : lv_has ls 9 [(0, .ref (ad b)), (1, .ref (ad k1)), (2, .int (nI (i))), (3, .ref (ad k2)), (4, .int (nI (j))), (5, .int (nI (ln9)))] := hl
  refine lv_iconst (v := nI (0)) hx hb dX3_leastNext_0 (by decide) ?_
  refine lv_istore (lv' := [(6, .int (nI (0))), (0, .ref (ad b)), (1, .ref (ad k1)), (2, .int (nI (i))), (3, .ref (ad k2)), (4, .int (nI (j))), (5, .int (nI (ln9)))]) hx hb dX3_leastNext_1 hl (by decide) rfl (fun ls hl => ?_)
  have L3 : ∀ (fu : Nat) (f1 : Nat), (f1 ≤ 8) → (∀ f, f < f1 → lnP V1 V2 n1 n2 i j ln9 f = false) → (8 - f1) < fu → ∀ (ls : Array Slot), lv_has ls 9 [(6, .int (nI (f1))), (0, .ref (ad b)), (1, .ref (ad k1)), (2, .int (nI (i))), (3, .ref (ad k2)), (4, .int (nI (j))), (5, .int (nI (ln9)))] → W p l e (rmF 2 44) s m [.ref (ad b), .ref (ad k1), .int (nI (i)), .ref (ad k2), .int (nI (j)), .int (nI (ln9))].toArray below meth c s.heap [] 0 0 (MQ below (vp_Si (fun r => r = nI (lnf V1 V2 n1 n2 i j ln9))) [.ref (ad b), .ref (ad k1), .int (nI (i)), .ref (ad k2), .int (nI (j)), .int (nI (ln9))].toArray s 0 0 (fun _ => False)) (F0 m 3 ls []) := by
    intro fu
    induction fu with
    | zero => intro f1 hf1 hno hms ls hl; exact absurd hms (Nat.not_lt_zero _)
    | succ fu ih3 =>
      intro f1 hf1 hno hms ls hl
      refine lv_iload hx hb dX3_leastNext_3 (lv_at hl 0 rfl) ?_
      refine lv_bipush (v := nI (8)) hx hb dX3_leastNext_5 (by decide) ?_
      refine lv_icmp_ge (tgt := 83) hx hb dX3_leastNext_7 (by decide) (fun c_7 => ?_) (fun c_7 => ?_)
      · skip
        have c_7 := (nI_leI (by omega) (by omega)).mp c_7
        refine lv_bipush (v := (-4)) hx hb dX3_leastNext_83 (by decide) ?_
        obtain ⟨f0, hf0, hf2⟩ := hex
        rw [hno f0 (by omega)] at hf2
        exact rSi S hr hlk (absurd hf2 Bool.false_ne_true) dX3_leastNext_85
      · skip
        have c_7 := (not_congr (nI_leI (by omega) (by omega))).mp c_7
        refine lv_aload_n hx hb dX3_leastNext_10 rfl (lv_at hl 2 rfl) ?_
        refine lv_iload_n hx hb dX3_leastNext_11 rfl (lv_at hl 3 rfl) ?_
        refine lv_iload hx hb dX3_leastNext_12 (lv_at hl 0 rfl) ?_
        refine kVi (As := [.int (nI (i)), .int (nI (f1))]) (rest := []) S hK hP (c_X7_placeFrom l D cy ad N g k1 hk1 kv1 hkv1 n1 V1 hv1 hvv1 hk1kv hn1 hV1 i hi f1 (by omega)) cv_X3_35 hk1 hv1 ⟨_, _, rfl⟩ ⟨rfl, rfl⟩ rfl hl.1 rfl (Nat.le_of_ble_eq_true rfl) ⟨Nat.zero_le _, Nat.zero_le _⟩ dX3_leastNext_14 (fun r_14 q_14 => ?_)
        subst q_14
        refine lv_istore (lv' := [(7, .int (if pfr V1 n1 f1 i < n1 then nI (pfr V1 n1 f1 i) else -4)), (6, .int (nI (f1))), (0, .ref (ad b)), (1, .ref (ad k1)), (2, .int (nI (i))), (3, .ref (ad k2)), (4, .int (nI (j))), (5, .int (nI (ln9)))]) hx hb dX3_leastNext_17 hl (by decide) rfl (fun ls hl => ?_)
        refine lv_aload_n hx hb dX3_leastNext_19 rfl (lv_at hl 5 rfl) ?_
        refine lv_iload hx hb dX3_leastNext_20 (lv_at hl 6 rfl) ?_
        refine lv_iload hx hb dX3_leastNext_22 (lv_at hl 1 rfl) ?_
        refine kVi (As := [.int (nI (j)), .int (nI (f1))]) (rest := []) S hK hP (c_X7_placeFrom l D cy ad N g k2 hk2 kv2 hkv2 n2 V2 hv2 hvv2 hk2kv hn2 hV2 j hj f1 (by omega)) cv_X3_35 hk2 hv2 ⟨_, _, rfl⟩ ⟨rfl, rfl⟩ rfl hl.1 rfl (Nat.le_of_ble_eq_true rfl) ⟨Nat.zero_le _, Nat.zero_le _⟩ dX3_leastNext_24 (fun r_24 q_24 => ?_)
        subst q_24
        refine lv_istore (lv' := [(8, .int (if pfr V2 n2 f1 j < n2 then nI (pfr V2 n2 f1 j) else -4)), (7, .int (if pfr V1 n1 f1 i < n1 then nI (pfr V1 n1 f1 i) else -4)), (6, .int (nI (f1))), (0, .ref (ad b)), (1, .ref (ad k1)), (2, .int (nI (i))), (3, .ref (ad k2)), (4, .int (nI (j))), (5, .int (nI (ln9)))]) hx hb dX3_leastNext_27 hl (by decide) rfl (fun ls hl => ?_)
        have hpa : pfr V1 n1 f1 i ≤ n1 := (fsr_bd _ hi).2
        have hpb : pfr V2 n2 f1 j ≤ n2 := (fsr_bd _ hj).2
        refine lv_iload hx hb dX3_leastNext_29 (lv_at hl 1 rfl) ?_
        refine lv_if_lt (tgt := 77) hx hb dX3_leastNext_31 (by decide) (fun c_31 => ?_) (fun c_31 => ?_)
        · skip
          refine lv_iinc (v := nI (f1 + 1)) (lv' := [(6, .int (nI (f1 + 1))), (8, .int (if pfr V2 n2 f1 j < n2 then nI (pfr V2 n2 f1 j) else -4)), (7, .int (if pfr V1 n1 f1 i < n1 then nI (pfr V1 n1 f1 i) else -4)), (0, .ref (ad b)), (1, .ref (ad k1)), (2, .int (nI (i))), (3, .ref (ad k2)), (4, .int (nI (j))), (5, .int (nI (ln9)))]) hx hb dX3_leastNext_77 hl (k := 2) rfl (by exact nI_add f1 1) (by decide) rfl (fun ls hl => ?_)
          refine lv_goto (tgt := 3) hx hb dX3_leastNext_80 (by decide) ?_
          exact ih3 (f1 + 1) (by omega) (lt_sn hno (by first | exact lnP_c hCx | exact lnP_b (pz_a hpb hn2 c_43) | exact lnP_a (pz_a hpa hn1 c_31))) (by omega) _ (lv_sub hl [0, 3, 4, 5, 6, 7, 8] rfl)
        · skip
          have hA1 := pz_b hpa hn1 c_31
          have hl : lv_has ls 9 [(8, .int (if pfr V2 n2 f1 j < n2 then nI (pfr V2 n2 f1 j) else -4)), (7, .int (nI (pfr V1 n1 f1 i))), (6, .int (nI (f1))), (0, .ref (ad b)), (1, .ref (ad k1)), (2, .int (nI (i))), (3, .ref (ad k2)), (4, .int (nI (j))), (5, .int (nI (ln9)))] := by rw [if_pos hA1] at hl; exact hl
          refine lv_iload hx hb dX3_leastNext_34 (lv_at hl 1 rfl) ?_
          refine lv_bipush (v := nI (16)) hx hb dX3_leastNext_36 (by decide) ?_
          refine lv_icmp_ge (tgt := 77) hx hb dX3_leastNext_38 (by decide) (fun c_38 => ?_) (fun c_38 => ?_)
          · skip
            have c_38 := (nI_leI (by omega) (by omega)).mp c_38
            exact absurd c_38 (by omega)
          · skip
            have c_38 := (not_congr (nI_leI (by omega) (by omega))).mp c_38
            refine lv_iload hx hb dX3_leastNext_41 (lv_at hl 0 rfl) ?_
            refine lv_if_lt (tgt := 77) hx hb dX3_leastNext_43 (by decide) (fun c_43 => ?_) (fun c_43 => ?_)
            · skip
              refine lv_iinc (v := nI (f1 + 1)) (lv' := [(6, .int (nI (f1 + 1))), (8, .int (if pfr V2 n2 f1 j < n2 then nI (pfr V2 n2 f1 j) else -4)), (7, .int (nI (pfr V1 n1 f1 i))), (0, .ref (ad b)), (1, .ref (ad k1)), (2, .int (nI (i))), (3, .ref (ad k2)), (4, .int (nI (j))), (5, .int (nI (ln9)))]) hx hb dX3_leastNext_77 hl (k := 2) rfl (by exact nI_add f1 1) (by decide) rfl (fun ls hl => ?_)
              refine lv_goto (tgt := 3) hx hb dX3_leastNext_80 (by decide) ?_
              exact ih3 (f1 + 1) (by omega) (lt_sn hno (by first | exact lnP_c hCx | exact lnP_b (pz_a hpb hn2 c_43) | exact lnP_a (pz_a hpa hn1 c_31))) (by omega) _ (lv_sub hl [0, 3, 4, 5, 6, 7, 8] rfl)
            · skip
              have hB1 := pz_b hpb hn2 c_43
              have hl : lv_has ls 9 [(8, .int (nI (pfr V2 n2 f1 j))), (7, .int (nI (pfr V1 n1 f1 i))), (6, .int (nI (f1))), (0, .ref (ad b)), (1, .ref (ad k1)), (2, .int (nI (i))), (3, .ref (ad k2)), (4, .int (nI (j))), (5, .int (nI (ln9)))] := by rw [if_pos hB1] at hl; exact hl
              refine lv_iload hx hb dX3_leastNext_46 (lv_at hl 0 rfl) ?_
              refine lv_bipush (v := nI (16)) hx hb dX3_leastNext_48 (by decide) ?_
              refine lv_icmp_ge (tgt := 77) hx hb dX3_leastNext_50 (by decide) (fun c_50 => ?_) (fun c_50 => ?_)
              · skip
                have c_50 := (nI_leI (by omega) (by omega)).mp c_50
                exact absurd c_50 (by omega)
              · skip
                have c_50 := (not_congr (nI_leI (by omega) (by omega))).mp c_50
                refine lv_aload_n hx hb dX3_leastNext_53 rfl (lv_at hl 3 rfl) ?_
                refine mg S hK hP (by omega) hg fd_X3_11 rfl dX3_leastNext_54 ?_
                refine lv_iload hx hb dX3_leastNext_57 (lv_at hl 1 rfl) ?_
                refine lv_iconst (v := nI (1)) hx hb dX3_leastNext_59 (by decide) ?_
                refine lv_iadd hx hb dX3_leastNext_60 ?_
                refine tpi (nI_add (pfr V1 n1 f1 i) 1) ?_
                have hrow_0 : pfr V1 n1 f1 i + 1 < 17 := by omega
                have hfc_1 : g (b + 2 + (pfr V1 n1 f1 i + 1)) = .inl (cy 1, 17, .inl (fun x9 => nI ((Lm (pfr V1 n1 f1 i + 1)) x9))) := hLm (pfr V1 n1 f1 i + 1) hrow_0
                refine mial7A S hK hP (by omega) hgo rfl (vp_in_nI (by omega) (by omega)) (a := ad (b + 2 + (pfr V1 n1 f1 i + 1))) ((congrArg rfn (nI_clamp (by omega))).trans (hrf _ hrow_0)) dX3_leastNext_61 ?_
                refine lv_iload hx hb dX3_leastNext_62 (lv_at hl 0 rfl) ?_
                refine lv_iconst (v := nI (1)) hx hb dX3_leastNext_64 (by decide) ?_
                refine lv_iadd hx hb dX3_leastNext_65 ?_
                refine tpi (nI_add (pfr V2 n2 f1 j) 1) ?_
                refine mial S hK hP (by omega) hfc_1 (vp_in_nI (by omega) (by omega)) dX3_leastNext_66 ?_
                refine tpi (congrArg ((fun x9 => nI ((Lm (pfr V1 n1 f1 i + 1)) x9))) (nI_clamp (by omega))) ?_
                refine tpi (by rw [hLc _ _ (by omega) (by omega)]) ?_
                have hlb := lc_le' (V1 := V1) (V2 := V2) (n1 := n1) (n2 := n2) (i := pfr V1 n1 f1 i + 1) (j := pfr V2 n2 f1 j + 1)
                refine lv_iload hx hb dX3_leastNext_67 (lv_at hl 8 rfl) ?_
                refine lv_iconst (v := nI (1)) hx hb dX3_leastNext_69 (by decide) ?_
                refine lv_isub hx hb dX3_leastNext_70 ?_
                refine tpi (pk_sub (a := ln9) (b := 1) (by omega)) ?_
                refine lv_icmp_ne (tgt := 77) hx hb dX3_leastNext_71 (by decide) (fun c_71 => ?_) (fun c_71 => ?_)
                · skip
                  have c_71 := (not_congr (nI_eq (by omega) (by omega))).mp c_71
                  have hCx : ¬ lc V1 V2 n1 n2 (pfr V1 n1 f1 i + 1) (pfr V2 n2 f1 j + 1) + 1 = ln9 := (by omega)
                  refine lv_iinc (v := nI (f1 + 1)) (lv' := [(6, .int (nI (f1 + 1))), (8, .int (nI (pfr V2 n2 f1 j))), (7, .int (nI (pfr V1 n1 f1 i))), (0, .ref (ad b)), (1, .ref (ad k1)), (2, .int (nI (i))), (3, .ref (ad k2)), (4, .int (nI (j))), (5, .int (nI (ln9)))]) hx hb dX3_leastNext_77 hl (k := 2) rfl (by exact nI_add f1 1) (by decide) rfl (fun ls hl => ?_)
                  refine lv_goto (tgt := 3) hx hb dX3_leastNext_80 (by decide) ?_
                  exact ih3 (f1 + 1) (by omega) (lt_sn hno (by first | exact lnP_c hCx | exact lnP_b (pz_a hpb hn2 c_43) | exact lnP_a (pz_a hpa hn1 c_31))) (by omega) _ (lv_sub hl [0, 3, 4, 5, 6, 7, 8] rfl)
                · skip
                  have c_71 := (nI_eq (by omega) (by omega)).mp c_71
                  have hR : lnf V1 V2 n1 n2 i j ln9 = f1 := fs_yes hno (lnP_t hA1 hB1 (by omega)) (by omega)
                  refine lv_iload hx hb dX3_leastNext_74 (lv_at hl 2 rfl) ?_
                  exact rSi S hr hlk (by rw [hR]) dX3_leastNext_76
  exact L3 ((8 - 0) + 1) 0 (by omega) (fun f q => absurd q (Nat.not_lt_zero _)) (Nat.lt_succ_self _) _ (lv_sub hl [0, 1, 2, 3, 4, 5, 6] rfl)
set_option maxHeartbeats 4000000 in
set_option maxRecDepth 100000 in
theorem c_X3_find (l : Launch) (D : va_G) (cy : Nat → ClassId) (ad : Nat → Nat) (N : Nat) (g : Nat → va_E) (hinj : ∀ i j : Nat, i < N → j < N → ad i = ad j → i = j) (b : Nat) (hbN : b + 21 ≤ N) (hg : g b = .inr (3, [.ref (ad (b + 1)), .ref (ad (b + 19))])) (rfn : Nat → Option Nat) (hgo : g (b + 1) = .inl (cy 7, 17, .inr (.inr (.inr (.inr rfn))))) (hrf : ∀ j, j < 17 → rfn j = some (ad (b + 2 + j))) (Lm : Nat → Nat → Nat) (hLm : (∀ j : Nat, j < 17 → g (b + 2 + j) = .inl (cy 1, 17, .inl (fun x9 => nI ((Lm j) x9))))) (hLmb : ∀ i j, Lm i j ≤ 100) (k1 : Nat) (hk1 : k1 < N) (kv1 : Nat) (hkv1 : kv1 < N) (n1 : Nat) (V1 : Nat → Nat) (hv1 : g k1 = .inr (7, [.ref (ad kv1), .int (nI (n1))])) (hvv1 : g kv1 = .inl (cy 1, 16, .inl (fun x9 => nI (V1 x9)))) (hk1kv : k1 ≠ kv1) (hn1 : n1 ≤ 16) (hV1 : ∀ i, V1 i < 8) (hko1 : (k1 < b ∨ b + 21 ≤ k1) ∧ (kv1 < b ∨ b + 21 ≤ kv1)) (k2 : Nat) (hk2 : k2 < N) (kv2 : Nat) (hkv2 : kv2 < N) (n2 : Nat) (V2 : Nat → Nat) (hv2 : g k2 = .inr (7, [.ref (ad kv2), .int (nI (n2))])) (hvv2 : g kv2 = .inl (cy 1, 16, .inl (fun x9 => nI (V2 x9)))) (hk2kv : k2 ≠ kv2) (hn2 : n2 ≤ 16) (hV2 : ∀ i, V2 i < 8) (hko2 : (k2 < b ∨ b + 21 ≤ k2) ∧ (kv2 < b ∨ b + 21 ≤ kv2)) (r0 : Nat) (R0 : Nat → Nat) (hvr : g (b + 19) = .inr (7, [.ref (ad (b + 20)), .int (nI (r0))])) (hvvr : g (b + 20) = .inl (cy 1, 16, .inl (fun x9 => nI (R0 x9)))) (hR8 : ∀ i, R0 i < 8) : Met l yX3_find (WS yX3_find cX3_find 7 none) (rmF 3 72) (PP [.ref (ad b), .ref (ad k1), .ref (ad k2)] D cy ad N g) (QV (fun g1 => ∃ (Lr : Nat → Nat → Nat), (∀ a x, Lr a x ≤ 100) ∧ g1 (b + 19) = .inr (7, [.ref (ad (b + 20)), .int (nI (lc V1 V2 n1 n2 0 0))]) ∧ g1 (b + 20) = .inl (cy 1, 16, .inl (fun x9 => nI ((sRw V1 V2 n1 n2 R0 (lc V1 V2 n1 n2 0 0)) x9))) ∧ (∀ j : Nat, j < 17 → g1 (b + 2 + j) = .inl (cy 1, 17, .inl (fun x9 => nI ((Lr j) x9)))) ∧ (∀ j, (j < b + 2 ∨ b + 21 ≤ j) → g1 j = g j)) D ad N) 0 0 (AA ad N) := by
  refine mentry (by decide) (Nat.le_of_ble_eq_true rfl) (fun p e s m below meth c ls S hr hlk hnm hP hK hl => ?_)
  have S : CallFix p m c cX3_find 7 s _ wsL_law RX3 := S
  have hx := S.1
  have hb := S.2.1
  have hl : lv_has ls 7 [(0, .ref (ad b)), (1, .ref (ad k1)), (2, .ref (ad k2))] := hl
  have hI : MD (AA ad N) ad N := MD.in hinj
  have hS : va_S (AA ad N) s.heap s.heap [] := va_S.rf
  have hfr : ∀ j : Nat, g j = g j := fun _ => rfl
  refine lv_aload_n hx hb dX3_find_0 rfl (lv_at hl 0 rfl) ?_
  refine lv_aload_n hx hb dX3_find_1 rfl (lv_at hl 1 rfl) ?_
  refine lv_aload_n hx hb dX3_find_2 rfl (lv_at hl 2 rfl) ?_
  refine kMv (As := [.ref (ad k1), .ref (ad k2)]) (rest := []) S hK hP hS (fun _ h => h) (c_X3_measure l D cy ad N g hinj b (by omega) hg rfn hgo hrf Lm hLm hLmb k1 hk1 kv1 hkv1 n1 V1 hv1 hvv1 hk1kv hn1 hV1 hko1 k2 hk2 kv2 hkv2 n2 V2 hv2 hvv2 hk2kv hn2 hV2 hko2) cv_X3_23 (by omega) hg ⟨_, _, rfl⟩ ⟨rfl, rfl⟩ rfl hl.1 rfl (Nat.le_of_ble_eq_true rfl) ⟨Nat.zero_le _, Nat.zero_le _⟩ dX3_find_3 (fun g_1 H locs q_1 hP hS => ?_)
  obtain ⟨Lr_1, hLr_1, hLrb_1, hfam_R_1, f_1⟩ := q_1
  have hb_1 : g_1 b = .inr (3, [.ref (ad (b + 1)), .ref (ad (b + 19))]) := (f_1 b (by omega)).trans hg
  have hb___1_1 : g_1 (b + 1) = .inl (cy 7, 17, .inr (.inr (.inr (.inr rfn)))) := (f_1 (b + 1) (by omega)).trans hgo
  have hk1_1 : g_1 k1 = .inr (7, [.ref (ad kv1), .int (nI (n1))]) := (f_1 k1 (by omega)).trans hv1
  have hkv1_1 : g_1 kv1 = .inl (cy 1, 16, .inl (fun x9 => nI (V1 x9))) := (f_1 kv1 (by omega)).trans hvv1
  have hk2_1 : g_1 k2 = .inr (7, [.ref (ad kv2), .int (nI (n2))]) := (f_1 k2 (by omega)).trans hv2
  have hkv2_1 : g_1 kv2 = .inl (cy 1, 16, .inl (fun x9 => nI (V2 x9))) := (f_1 kv2 (by omega)).trans hvv2
  have hb___19_1 : g_1 (b + 19) = .inr (7, [.ref (ad (b + 20)), .int (nI (r0))]) := (f_1 (b + 19) (by omega)).trans hvr
  have hb___20_1 : g_1 (b + 20) = .inl (cy 1, 16, .inl (fun x9 => nI (R0 x9))) := (f_1 (b + 20) (by omega)).trans hvvr
  have hfr_1 : ∀ j : Nat, (j < b + 2 ∨ b + 19 ≤ j) → g_1 j = g j := fun j n0 => (f_1 j n0).trans (hfr j )
  refine lv_aload_n hx hb dX3_find_6 rfl (lv_at hl 0 rfl) ?_
  refine mg S hK hP (by omega) hb_1 fd_X3_19 rfl dX3_find_7 ?_
  refine lv_iconst (v := nI (0)) hx hb dX3_find_10 (by decide) ?_
  refine mp S hK hP hI hS (by omega) hb___19_1 fd_X3_27 rfl rfl (Nat.le_of_ble_eq_true rfl) dX3_find_11 (fun g_2 H locs eg_2 hP hS => ?_)
  have hb___19_2 : g_2 (b + 19) = .inr (7, [.ref (ad (b + 20)), .int (nI (0))]) := by rw [eg_2, va_up_self]; exact rfl
  have hb_2 : g_2 b = .inr (3, [.ref (ad (b + 1)), .ref (ad (b + 19))]) := ((congrFun eg_2 _).trans (va_up_ne _ _ (by omega))).trans hb_1
  have hb___1_2 : g_2 (b + 1) = .inl (cy 7, 17, .inr (.inr (.inr (.inr rfn)))) := ((congrFun eg_2 _).trans (va_up_ne _ _ (by omega))).trans hb___1_1
  have hk1_2 : g_2 k1 = .inr (7, [.ref (ad kv1), .int (nI (n1))]) := ((congrFun eg_2 _).trans (va_up_ne _ _ (by omega))).trans hk1_1
  have hkv1_2 : g_2 kv1 = .inl (cy 1, 16, .inl (fun x9 => nI (V1 x9))) := ((congrFun eg_2 _).trans (va_up_ne _ _ (by omega))).trans hkv1_1
  have hk2_2 : g_2 k2 = .inr (7, [.ref (ad kv2), .int (nI (n2))]) := ((congrFun eg_2 _).trans (va_up_ne _ _ (by omega))).trans hk2_1
  have hkv2_2 : g_2 kv2 = .inl (cy 1, 16, .inl (fun x9 => nI (V2 x9))) := ((congrFun eg_2 _).trans (va_up_ne _ _ (by omega))).trans hkv2_1
  have hb___20_2 : g_2 (b + 20) = .inl (cy 1, 16, .inl (fun x9 => nI (R0 x9))) := ((congrFun eg_2 _).trans (va_up_ne _ _ (by omega))).trans hb___20_1
  have hfam_R_2 : (∀ j : Nat, j < 17 → g_2 (b + 2 + j) = .inl (cy 1, 17, .inl (fun x9 => nI ((Lr_1 j) x9)))) := fun j hj => ((congrFun eg_2 _).trans (va_up_ne _ _ (by omega))).trans (hfam_R_1 j hj)
  have hfr_2 : ∀ j : Nat, (j < b + 2 ∨ b + 19 ≤ j) → j ≠ (b + 19) → g_2 j = g j := fun j n0 n1 => ((congrFun eg_2 _).trans (va_up_ne _ _ n1)).trans (hfr_1 j n0)
  refine lv_iconst (v := nI (0)) hx hb dX3_find_14 (by decide) ?_
  refine lv_istore_n (lv' := [(3, .int (nI (0))), (0, .ref (ad b)), (1, .ref (ad k1)), (2, .ref (ad k2))]) hx hb dX3_find_15 rfl hl (by decide) rfl (fun ls hl => ?_)
  refine lv_iconst (v := nI (0)) hx hb dX3_find_16 (by decide) ?_
  refine lv_istore (lv' := [(4, .int (nI (0))), (3, .int (nI (0))), (0, .ref (ad b)), (1, .ref (ad k1)), (2, .ref (ad k2))]) hx hb dX3_find_17 hl (by decide) rfl (fun ls hl => ?_)
  refine lv_aload_n hx hb dX3_find_19 rfl (lv_at hl 2 rfl) ?_
  refine mg S hK hP (by omega) hb_2 fd_X3_11 rfl dX3_find_20 ?_
  refine lv_iconst (v := nI (0)) hx hb dX3_find_23 (by decide) ?_
  have hrow_2 : 0 < 17 := by omega
  have hfc_3 : g_2 (b + 2 + 0) = .inl (cy 1, 17, .inl (fun x9 => nI ((Lr_1 0) x9))) := hfam_R_2 0 hrow_2
  refine mial7A S hK hP (by omega) hb___1_2 rfl (vp_in_nI (by omega) (by omega)) (a := ad (b + 2 + 0)) ((congrArg rfn (nI_clamp (by omega))).trans (hrf _ hrow_2)) dX3_find_24 ?_
  refine lv_iconst (v := nI (0)) hx hb dX3_find_25 (by decide) ?_
  refine mial S hK hP (by omega) hfc_3 (vp_in_nI (by omega) (by omega)) dX3_find_26 ?_
  refine tpi (congrArg ((fun x9 => nI ((Lr_1 0) x9))) (nI_clamp (by omega))) ?_
  refine tpi (by rw [hLr_1 0 0 (by omega) (by omega)]) ?_
  refine lv_istore (lv' := [(5, .int (nI (lc V1 V2 n1 n2 0 0))), (4, .int (nI (0))), (3, .int (nI (0))), (0, .ref (ad b)), (1, .ref (ad k1)), (2, .ref (ad k2))]) hx hb dX3_find_27 hl (by decide) rfl (fun ls hl => ?_)
  have L29 : ∀ (fu : Nat) (cq : Nat), (cq ≤ lc V1 V2 n1 n2 0 0) → (lc V1 V2 n1 n2 0 0 - cq) < fu → ∀ (g_4 : Nat → va_E) (H : Heap) (locs : List Loc), g_4 (b + 19) = .inr (7, [.ref (ad (b + 20)), .int (nI (cq))]) → g_4 (b + 20) = .inl (cy 1, 16, .inl (fun x9 => nI ((sRw V1 V2 n1 n2 R0 cq) x9))) → (∀ j : Nat, j < 17 → g_4 (b + 2 + j) = .inl (cy 1, 17, .inl (fun x9 => nI ((Lr_1 j) x9)))) → (∀ j : Nat, (j < b + 2 ∨ b + 21 ≤ j) → g_4 j = g j) → MM D ad N g_4 H → va_S (AA ad N) s.heap H locs → ∀ (ls : Array Slot), lv_has ls 7 [(5, .int (nI (lc V1 V2 n1 n2 0 0 - cq))), (4, .int (nI ((sst V1 V2 n1 n2 cq).2))), (3, .int (nI ((sst V1 V2 n1 n2 cq).1))), (0, .ref (ad b)), (1, .ref (ad k1)), (2, .ref (ad k2))] → W p l e (rmF 3 72) s m [.ref (ad b), .ref (ad k1), .ref (ad k2)].toArray below meth c H locs 0 0 (MQ below (QV (fun g1 => ∃ (Lr : Nat → Nat → Nat), (∀ a x, Lr a x ≤ 100) ∧ g1 (b + 19) = .inr (7, [.ref (ad (b + 20)), .int (nI (lc V1 V2 n1 n2 0 0))]) ∧ g1 (b + 20) = .inl (cy 1, 16, .inl (fun x9 => nI ((sRw V1 V2 n1 n2 R0 (lc V1 V2 n1 n2 0 0)) x9))) ∧ (∀ j : Nat, j < 17 → g1 (b + 2 + j) = .inl (cy 1, 17, .inl (fun x9 => nI ((Lr j) x9)))) ∧ (∀ j, (j < b + 2 ∨ b + 21 ≤ j) → g1 j = g j)) D ad N) [.ref (ad b), .ref (ad k1), .ref (ad k2)].toArray s 0 0 (AA ad N)) (F0 m 29 ls []) := by
    intro fu
    induction fu with
    | zero => intro cq hc hms g_4 H locs hb___19_4 hb___20_4 hfam_R_4 hfr_4 hP hS ls hl; exact absurd hms (Nat.not_lt_zero _)
    | succ fu ih29 =>
      intro cq hc hms g_4 H locs hb___19_4 hb___20_4 hfam_R_4 hfr_4 hP hS ls hl
      have hb_4 : g_4 b = .inr (3, [.ref (ad (b + 1)), .ref (ad (b + 19))]) := (hfr_4 b (by omega)).trans hg
      have hb___1_4 : g_4 (b + 1) = .inl (cy 7, 17, .inr (.inr (.inr (.inr rfn)))) := (hfr_4 (b + 1) (by omega)).trans hgo
      have hk1_4 : g_4 k1 = .inr (7, [.ref (ad kv1), .int (nI (n1))]) := (hfr_4 k1 (by omega)).trans hv1
      have hkv1_4 : g_4 kv1 = .inl (cy 1, 16, .inl (fun x9 => nI (V1 x9))) := (hfr_4 kv1 (by omega)).trans hvv1
      have hk2_4 : g_4 k2 = .inr (7, [.ref (ad kv2), .int (nI (n2))]) := (hfr_4 k2 (by omega)).trans hv2
      have hkv2_4 : g_4 kv2 = .inl (cy 1, 16, .inl (fun x9 => nI (V2 x9))) := (hfr_4 kv2 (by omega)).trans hvv2
      have hLn : lc V1 V2 n1 n2 0 0 ≤ n1 := lc_n
      refine lv_iload hx hb dX3_find_29 (lv_at hl 0 rfl) ?_
      refine lv_if_le (tgt := 85) hx hb dX3_find_31 (by decide) (fun c_31 => ?_) (fun c_31 => ?_)
      · skip
        have c_31 := (z_le (by omega)).mp c_31
        exact rMv S hr hlk hP hS ⟨Lr_1, hLrb_1, (by have e : cq = lc V1 V2 n1 n2 0 0 := (by omega); rw [← e]; exact hb___19_4), (by have e : cq = lc V1 V2 n1 n2 0 0 := (by omega); rw [← e]; exact hb___20_4), hfam_R_4, hfr_4⟩ dX3_find_85
      · skip
        have c_31 := (not_congr (z_le (by omega))).mp c_31
        have hso := sst_ok (V1 := V1) (V2 := V2) (n1 := n1) (n2 := n2) hV1 cq hc
        have hpl : pfr V1 n1 (lnf V1 V2 n1 n2 ((sst V1 V2 n1 n2 cq).1) ((sst V1 V2 n1 n2 cq).2) (lc V1 V2 n1 n2 0 0 - cq)) (sst V1 V2 n1 n2 cq).1 < n1 ∧ pfr V2 n2 (lnf V1 V2 n1 n2 ((sst V1 V2 n1 n2 cq).1) ((sst V1 V2 n1 n2 cq).2) (lc V1 V2 n1 n2 0 0 - cq)) (sst V1 V2 n1 n2 cq).2 < n2 := sfg_pl (V1 := V1) (V2 := V2) (n1 := n1) (n2 := n2) hV1 (c := cq) (by omega)
        have hf8 : lnf V1 V2 n1 n2 ((sst V1 V2 n1 n2 cq).1) ((sst V1 V2 n1 n2 cq).2) (lc V1 V2 n1 n2 0 0 - cq) < 8 := (sfg_ok (V1 := V1) (V2 := V2) (n1 := n1) (n2 := n2) hV1 (c := cq) (by omega)).1
        have hex := lnP_ex hso.1.1 hso.1.2 hV1 (by rw [hso.2]; omega)
        rw [hso.2] at hex
        refine lv_aload_n hx hb dX3_find_34 rfl (lv_at hl 3 rfl) ?_
        refine lv_aload_n hx hb dX3_find_35 rfl (lv_at hl 4 rfl) ?_
        refine lv_iload_n hx hb dX3_find_36 rfl (lv_at hl 2 rfl) ?_
        refine lv_aload_n hx hb dX3_find_37 rfl (lv_at hl 5 rfl) ?_
        refine lv_iload hx hb dX3_find_38 (lv_at hl 1 rfl) ?_
        refine lv_iload hx hb dX3_find_40 (lv_at hl 0 rfl) ?_
        refine kVi (As := [.ref (ad k1), .int (nI ((sst V1 V2 n1 n2 cq).1)), .ref (ad k2), .int (nI ((sst V1 V2 n1 n2 cq).2)), .int (nI (lc V1 V2 n1 n2 0 0 - cq))]) (rest := []) S hK hP (c_X3_leastNext l D cy ad N g_4 b (by omega) hb_4 rfn hb___1_4 hrf Lr_1 hfam_R_4 hLrb_1 k1 hk1 kv1 hkv1 n1 V1 hk1_4 hkv1_4 hk1kv hn1 hV1 hko1 k2 hk2 kv2 hkv2 n2 V2 hk2_4 hkv2_4 hk2kv hn2 hV2 hko2 hLr_1 ((sst V1 V2 n1 n2 cq).1) ((sst V1 V2 n1 n2 cq).2) (lc V1 V2 n1 n2 0 0 - cq) hso.1.1 hso.1.2 (by omega) hex) cv_X3_31 (by omega) hb_4 ⟨_, _, rfl⟩ ⟨rfl, rfl⟩ rfl hl.1 rfl (Nat.le_of_ble_eq_true rfl) ⟨Nat.zero_le _, Nat.zero_le _⟩ dX3_find_42 (fun r_42 q_42 => ?_)
        subst q_42
        refine lv_istore (lv' := [(6, .int (nI (lnf V1 V2 n1 n2 ((sst V1 V2 n1 n2 cq).1) ((sst V1 V2 n1 n2 cq).2) (lc V1 V2 n1 n2 0 0 - cq)))), (5, .int (nI (lc V1 V2 n1 n2 0 0 - cq))), (4, .int (nI ((sst V1 V2 n1 n2 cq).2))), (3, .int (nI ((sst V1 V2 n1 n2 cq).1))), (0, .ref (ad b)), (1, .ref (ad k1)), (2, .ref (ad k2))]) hx hb dX3_find_45 hl (by decide) rfl (fun ls hl => ?_)
        refine lv_aload_n hx hb dX3_find_47 rfl (lv_at hl 5 rfl) ?_
        refine lv_iload_n hx hb dX3_find_48 rfl (lv_at hl 3 rfl) ?_
        refine lv_iload hx hb dX3_find_49 (lv_at hl 0 rfl) ?_
        refine kVi (As := [.int (nI ((sst V1 V2 n1 n2 cq).1)), .int (nI (lnf V1 V2 n1 n2 ((sst V1 V2 n1 n2 cq).1) ((sst V1 V2 n1 n2 cq).2) (lc V1 V2 n1 n2 0 0 - cq)))]) (rest := []) S hK hP (c_X7_placeFrom l D cy ad N g_4 k1 hk1 kv1 hkv1 n1 V1 hk1_4 hkv1_4 hk1kv hn1 hV1 ((sst V1 V2 n1 n2 cq).1) hso.1.1 (lnf V1 V2 n1 n2 ((sst V1 V2 n1 n2 cq).1) ((sst V1 V2 n1 n2 cq).2) (lc V1 V2 n1 n2 0 0 - cq)) (by omega)) cv_X3_35 hk1 hk1_4 ⟨_, _, rfl⟩ ⟨rfl, rfl⟩ rfl hl.1 rfl (Nat.le_of_ble_eq_true rfl) ⟨Nat.zero_le _, Nat.zero_le _⟩ dX3_find_51 (fun r_51 q_51 => ?_)
        subst q_51
        refine tpi (if_pos hpl.1) ?_
        refine lv_iconst (v := nI (1)) hx hb dX3_find_54 (by decide) ?_
        refine lv_iadd hx hb dX3_find_55 ?_
        refine tpi (nI_add (pfr V1 n1 (lnf V1 V2 n1 n2 ((sst V1 V2 n1 n2 cq).1) ((sst V1 V2 n1 n2 cq).2) (lc V1 V2 n1 n2 0 0 - cq)) (sst V1 V2 n1 n2 cq).1) 1) ?_
        refine lv_istore_n (lv' := [(3, .int (nI ((pfr V1 n1 (lnf V1 V2 n1 n2 ((sst V1 V2 n1 n2 cq).1) ((sst V1 V2 n1 n2 cq).2) (lc V1 V2 n1 n2 0 0 - cq)) (sst V1 V2 n1 n2 cq).1) + 1))), (6, .int (nI (lnf V1 V2 n1 n2 ((sst V1 V2 n1 n2 cq).1) ((sst V1 V2 n1 n2 cq).2) (lc V1 V2 n1 n2 0 0 - cq)))), (5, .int (nI (lc V1 V2 n1 n2 0 0 - cq))), (4, .int (nI ((sst V1 V2 n1 n2 cq).2))), (0, .ref (ad b)), (1, .ref (ad k1)), (2, .ref (ad k2))]) hx hb dX3_find_56 rfl hl (by decide) rfl (fun ls hl => ?_)
        refine lv_aload_n hx hb dX3_find_57 rfl (lv_at hl 6 rfl) ?_
        refine lv_iload hx hb dX3_find_58 (lv_at hl 3 rfl) ?_
        refine lv_iload hx hb dX3_find_60 (lv_at hl 1 rfl) ?_
        refine kVi (As := [.int (nI ((sst V1 V2 n1 n2 cq).2)), .int (nI (lnf V1 V2 n1 n2 ((sst V1 V2 n1 n2 cq).1) ((sst V1 V2 n1 n2 cq).2) (lc V1 V2 n1 n2 0 0 - cq)))]) (rest := []) S hK hP (c_X7_placeFrom l D cy ad N g_4 k2 hk2 kv2 hkv2 n2 V2 hk2_4 hkv2_4 hk2kv hn2 hV2 ((sst V1 V2 n1 n2 cq).2) hso.1.2 (lnf V1 V2 n1 n2 ((sst V1 V2 n1 n2 cq).1) ((sst V1 V2 n1 n2 cq).2) (lc V1 V2 n1 n2 0 0 - cq)) (by omega)) cv_X3_35 hk2 hk2_4 ⟨_, _, rfl⟩ ⟨rfl, rfl⟩ rfl hl.1 rfl (Nat.le_of_ble_eq_true rfl) ⟨Nat.zero_le _, Nat.zero_le _⟩ dX3_find_62 (fun r_62 q_62 => ?_)
        subst q_62
        refine tpi (if_pos hpl.2) ?_
        refine lv_iconst (v := nI (1)) hx hb dX3_find_65 (by decide) ?_
        refine lv_iadd hx hb dX3_find_66 ?_
        refine tpi (nI_add (pfr V2 n2 (lnf V1 V2 n1 n2 ((sst V1 V2 n1 n2 cq).1) ((sst V1 V2 n1 n2 cq).2) (lc V1 V2 n1 n2 0 0 - cq)) (sst V1 V2 n1 n2 cq).2) 1) ?_
        refine lv_istore (lv' := [(4, .int (nI ((pfr V2 n2 (lnf V1 V2 n1 n2 ((sst V1 V2 n1 n2 cq).1) ((sst V1 V2 n1 n2 cq).2) (lc V1 V2 n1 n2 0 0 - cq)) (sst V1 V2 n1 n2 cq).2) + 1))), (3, .int (nI ((pfr V1 n1 (lnf V1 V2 n1 n2 ((sst V1 V2 n1 n2 cq).1) ((sst V1 V2 n1 n2 cq).2) (lc V1 V2 n1 n2 0 0 - cq)) (sst V1 V2 n1 n2 cq).1) + 1))), (6, .int (nI (lnf V1 V2 n1 n2 ((sst V1 V2 n1 n2 cq).1) ((sst V1 V2 n1 n2 cq).2) (lc V1 V2 n1 n2 0 0 - cq)))), (5, .int (nI (lc V1 V2 n1 n2 0 0 - cq))), (0, .ref (ad b)), (1, .ref (ad k1)), (2, .ref (ad k2))]) hx hb dX3_find_67 hl (by decide) rfl (fun ls hl => ?_)
        refine lv_aload_n hx hb dX3_find_69 rfl (lv_at hl 4 rfl) ?_
        refine mg S hK hP (by omega) hb_4 fd_X3_19 rfl dX3_find_70 ?_
        refine lv_iload hx hb dX3_find_73 (lv_at hl 2 rfl) ?_
        refine kMi (As := [.int (nI (lnf V1 V2 n1 n2 ((sst V1 V2 n1 n2 cq).1) ((sst V1 V2 n1 n2 cq).2) (lc V1 V2 n1 n2 0 0 - cq)))]) (rest := []) S hK hP hS (fun _ h => h) (c_X7_append l D cy ad N g_4 hinj (b + 19) (by omega) (b + 20) (by omega) cq (sRw V1 V2 n1 n2 R0 cq) hb___19_4 hb___20_4 (by omega) (by omega) (sRw_8 hV1 hR8 hc) (lnf V1 V2 n1 n2 ((sst V1 V2 n1 n2 cq).1) ((sst V1 V2 n1 n2 cq).2) (lc V1 V2 n1 n2 0 0 - cq)) hf8) cv_X3_39 (by omega) hb___19_4 ⟨_, _, rfl⟩ ⟨rfl, rfl⟩ rfl hl.1 rfl (Nat.le_of_ble_eq_true rfl) ⟨Nat.zero_le _, Nat.zero_le _⟩ dX3_find_75 (fun r_75 g_5 H locs q_5 hP hS => ?_)
        obtain ⟨q_75, h_b___19__5, h_b___20__5, f_5⟩ := q_5
        subst q_75
        have hb_5 : g_5 b = .inr (3, [.ref (ad (b + 1)), .ref (ad (b + 19))]) := (f_5 b (by omega) (by omega)).trans hb_4
        have hb___1_5 : g_5 (b + 1) = .inl (cy 7, 17, .inr (.inr (.inr (.inr rfn)))) := (f_5 (b + 1) (by omega) (by omega)).trans hb___1_4
        have hk1_5 : g_5 k1 = .inr (7, [.ref (ad kv1), .int (nI (n1))]) := (f_5 k1 (by omega) (by omega)).trans hk1_4
        have hkv1_5 : g_5 kv1 = .inl (cy 1, 16, .inl (fun x9 => nI (V1 x9))) := (f_5 kv1 (by omega) (by omega)).trans hkv1_4
        have hk2_5 : g_5 k2 = .inr (7, [.ref (ad kv2), .int (nI (n2))]) := (f_5 k2 (by omega) (by omega)).trans hk2_4
        have hkv2_5 : g_5 kv2 = .inl (cy 1, 16, .inl (fun x9 => nI (V2 x9))) := (f_5 kv2 (by omega) (by omega)).trans hkv2_4
        have hfam_R_5 : (∀ j : Nat, j < 17 → g_5 (b + 2 + j) = .inl (cy 1, 17, .inl (fun x9 => nI ((Lr_1 j) x9)))) := fun j hj => (f_5 (b + 2 + j) (by omega) (by omega)).trans (hfam_R_4 j hj)
        have hfr_5 : ∀ j : Nat, (j < b + 2 ∨ b + 21 ≤ j) → j ≠ (b + 19) → j ≠ (b + 20) → g_5 j = g j := fun j n0 n1 n2 => (f_5 j n1 n2).trans (hfr_4 j n0)
        refine lv_pop hx hb dX3_find_78 rfl ?_
        refine lv_iinc (v := nI ((lc V1 V2 n1 n2 0 0 - cq) - 1)) (lv' := [(5, .int (nI ((lc V1 V2 n1 n2 0 0 - cq) - 1))), (4, .int (nI ((pfr V2 n2 (lnf V1 V2 n1 n2 ((sst V1 V2 n1 n2 cq).1) ((sst V1 V2 n1 n2 cq).2) (lc V1 V2 n1 n2 0 0 - cq)) (sst V1 V2 n1 n2 cq).2) + 1))), (3, .int (nI ((pfr V1 n1 (lnf V1 V2 n1 n2 ((sst V1 V2 n1 n2 cq).1) ((sst V1 V2 n1 n2 cq).2) (lc V1 V2 n1 n2 0 0 - cq)) (sst V1 V2 n1 n2 cq).1) + 1))), (6, .int (nI (lnf V1 V2 n1 n2 ((sst V1 V2 n1 n2 cq).1) ((sst V1 V2 n1 n2 cq).2) (lc V1 V2 n1 n2 0 0 - cq)))), (0, .ref (ad b)), (1, .ref (ad k1)), (2, .ref (ad k2))]) hx hb dX3_find_79 hl (k := 3) rfl (nI_dec (by omega)) (by decide) rfl (fun ls hl => ?_)
        refine lv_goto (tgt := 29) hx hb dX3_find_82 (by decide) ?_
        exact ih29 (cq + 1) (by omega) (by omega) g_5 _ _ (by rw [← apVL_s (c := cq) (by omega)]; exact h_b___19__5) (by rw [← sRw_s (R0 := R0) (V1 := V1) (V2 := V2) (n1 := n1) (n2 := n2) (c := cq) (by omega)]; exact h_b___20__5) hfam_R_5 (fun j n0 => hfr_5 j (by omega) (by omega) (by omega)) hP hS _ (lv_sub hl [0, 1, 2, 4, 5, 6] rfl)
  exact L29 ((lc V1 V2 n1 n2 0 0 - 0) + 1) 0 (by omega) (Nat.lt_succ_self _) g_2 _ _ hb___19_2 (by rw [sRw_0]; exact hb___20_2) hfam_R_2 (fun j n0 => hfr_2 j (by omega) (by omega)) hP hS _ (lv_sub hl [0, 1, 2, 3, 4, 5] rfl)


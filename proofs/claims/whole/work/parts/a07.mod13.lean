set_option maxHeartbeats 4000000 in
set_option maxRecDepth 100000 in
theorem c_X10_layLongest (l : Launch) (D : va_G) (cy : Nat → ClassId) (ad : Nat → Nat) (N : Nat) (g : Nat → va_E) (hinj : ∀ i j : Nat, i < N → j < N → ad i = ad j → i = j) (hN : 145 ≤ N) (n : Nat) (fa : Nat) (he : Nat) (ov : Nat) (un : Nat) (la : Int32) (bo : Int32) (tp : Nat) (ft : Int32) (wr0 : Nat) (wa : Nat) (at0 : Nat) (sp : Nat) (tk : Nat) (vl : Int32) (fi : Nat) (nm : Nat) (dp : Nat) (wy : Int32) (st : Int32) (aP : Nat) (aF : Nat) (aH : Nat) (aO : Nat) (ps : Nat) (mn : Nat) (go : Int32) (vi : Nat) (hM : g 114 = mob ad (nI (n)) (nI (fa)) (nI (he)) (lN ov) (nI (un)) la bo (nI (tp)) ft (nI (wr0)) (nI (wa)) (nI (at0)) (nI (sp)) (nI (tk)) vl (nI (fi)) (nI (nm)) (nI (dp)) wy st (nI (aP)) (nI (aF)) (nI (aH)) (lN aO) (nI (ps)) (nI (mn)) go (nI (vi))) (DM : Nat → Nat) (hDM : g 139 = .inl (cy 1, 4, .inl (fun x9 => nI (DM x9)))) (DA : Nat → Nat) (hDA : g 140 = .inl (cy 1, 64, .inl (fun x9 => nI (DA x9)))) (Vl : Nat → Nat) (VV : Nat → Nat → Nat) (hvi : vi ≤ 4) (hVR : VR vi fi DM DA Vl VV) (LG : Nat → Nat) (hLG : g 141 = .inl (cy 1, 289, .inl (fun x9 => nI (LG x9)))) (hfi : fi ≤ 8) (v0 : Nat) (hv0 : v0 < vi) (u0 : Nat) (hu0 : u0 < vi) : Met l yX10_layLongest (WS yX10_layLongest cX10_layLongest 8 none) (rmF 0 0) (PP [.ref (ad 114), .int (nI (v0)), .int (nI (u0))] D cy ad N g) (QV (fun g1 => ∃ (LG2 : Nat → Nat), (∀ i j, i < 17 → j < 17 → LG2 (17 * i + j) = lc (VV v0) (VV u0) (Vl v0) (Vl u0) i j) ∧ g1 114 = mob ad (nI (n)) (nI (fa)) (nI (he)) (lN ov) (nI (un)) la bo (nI (tp)) ft (nI (wr0)) (nI (wa)) (nI (at0)) (nI (sp)) (nI (tk)) vl (nI (fi)) (nI (nm)) (nI (dp)) wy st (nI (aP)) (nI (aF)) (nI (aH)) (lN aO) (nI (ps)) (nI (mn)) go (nI (vi)) ∧ g1 141 = .inl (cy 1, 289, .inl (fun x9 => nI (LG2 x9))) ∧ (∀ j, j ≠ 114 → j ≠ 141 → g1 j = g j)) D ad N) 0 0 (AA ad N) := by
  refine mentry (by decide) (Nat.le_of_ble_eq_true rfl) (fun p e s m below meth c ls S hr hlk hnm hP hK hl => ?_)
  have S : CallFix p m c cX10_layLongest 8 s _ wsL_law RX10 := S
  have hx := S.1
  have hb := S.2.1
  have hl : lv_has ls 8 [(0, .ref (ad 114)), (1, .int (nI (v0))), (2, .int (nI (u0)))] := hl
  have hI : MD (AA ad N) ad N := MD.in hinj
  have hS : va_S (AA ad N) s.heap s.heap [] := va_S.rf
  have hfr : ∀ j : Nat, g j = g j := fun _ => rfl
  have hq := hVR.1 v0 hv0
  have hr9 := hVR.1 u0 hu0
  refine lv_iconst (v := nI (0)) hx hb dX10_layLongest_0 (by decide) ?_
  refine lv_istore_n (lv' := [(3, .int (nI (0))), (0, .ref (ad 114)), (1, .int (nI (v0))), (2, .int (nI (u0)))]) hx hb dX10_layLongest_1 rfl hl (by decide) rfl (fun ls hl => ?_)
  have L2 : ∀ (fu : Nat) (k9 : Nat) (G1 : Nat → Nat), (k9 ≤ 289) → (∀ j, j < k9 → G1 j = 0) → (289 - k9) < fu → ∀ (g_1 : Nat → va_E) (H : Heap) (locs : List Loc), g_1 114 = mob ad (nI (n)) (nI (fa)) (nI (he)) (lN ov) (nI (un)) la bo (nI (tp)) ft (nI (wr0)) (nI (wa)) (nI (at0)) (nI (sp)) (nI (tk)) vl (nI (fi)) (nI (nm)) (nI (dp)) wy st (nI (aP)) (nI (aF)) (nI (aH)) (lN aO) (nI (ps)) (nI (mn)) go (nI (vi)) → g_1 141 = .inl (cy 1, 289, .inl (fun x9 => nI (G1 x9))) → (∀ j : Nat, j ≠ 114 → j ≠ 141 → g_1 j = g j) → MM D ad N g_1 H → va_S (AA ad N) s.heap H locs → ∀ (ls : Array Slot), lv_has ls 8 [(3, .int (nI (k9))), (0, .ref (ad 114)), (1, .int (nI (v0))), (2, .int (nI (u0)))] → W p l e (rmF 0 0) s m [.ref (ad 114), .int (nI (v0)), .int (nI (u0))].toArray below meth c H locs 0 0 (MQ below (QV (fun g1 => ∃ (LG2 : Nat → Nat), (∀ i j, i < 17 → j < 17 → LG2 (17 * i + j) = lc (VV v0) (VV u0) (Vl v0) (Vl u0) i j) ∧ g1 114 = mob ad (nI (n)) (nI (fa)) (nI (he)) (lN ov) (nI (un)) la bo (nI (tp)) ft (nI (wr0)) (nI (wa)) (nI (at0)) (nI (sp)) (nI (tk)) vl (nI (fi)) (nI (nm)) (nI (dp)) wy st (nI (aP)) (nI (aF)) (nI (aH)) (lN aO) (nI (ps)) (nI (mn)) go (nI (vi)) ∧ g1 141 = .inl (cy 1, 289, .inl (fun x9 => nI (LG2 x9))) ∧ (∀ j, j ≠ 114 → j ≠ 141 → g1 j = g j)) D ad N) [.ref (ad 114), .int (nI (v0)), .int (nI (u0))].toArray s 0 0 (AA ad N)) (F0 m 2 ls []) := by
    intro fu
    induction fu with
    | zero => intro k9 G1 hk9 hG1 hms g_1 H locs h114_1 h141_1 hfr_1 hP hS ls hl; exact absurd hms (Nat.not_lt_zero _)
    | succ fu ih2 =>
      intro k9 G1 hk9 hG1 hms g_1 H locs h114_1 h141_1 hfr_1 hP hS ls hl
      have h139_1 : g_1 139 = .inl (cy 1, 4, .inl (fun x9 => nI (DM x9))) := (hfr_1 139 (by omega) (by omega)).trans hDM
      have h140_1 : g_1 140 = .inl (cy 1, 64, .inl (fun x9 => nI (DA x9))) := (hfr_1 140 (by omega) (by omega)).trans hDA
      refine lv_iload_n hx hb dX10_layLongest_2 rfl (lv_at hl 0 rfl) ?_
      refine lv_sipush (v := nI (289)) hx hb dX10_layLongest_3 (by decide) ?_
      refine lv_icmp_ge (tgt := 22) hx hb dX10_layLongest_6 (by decide) (fun c_6 => ?_) (fun c_6 => ?_)
      · skip
        have c_6 := (nI_leI (by omega) (by omega)).mp c_6
        refine lv_aload_n hx hb dX10_layLongest_22 rfl (lv_at hl 1 rfl) ?_
        refine mg S hK hP (by omega) h114_1 fd_X10_93 rfl dX10_layLongest_23 ?_
        refine lv_iload_n hx hb dX10_layLongest_26 rfl (lv_at hl 2 rfl) ?_
        refine mial S hK hP (by omega) h139_1 (vp_in_nI (by omega) (by omega)) dX10_layLongest_27 ?_
        refine tpi (congrArg ((fun x9 => nI (DM x9))) (nI_clamp (by omega))) ?_
        refine tpi (congrArg nI hq.1) ?_
        refine lv_iconst (v := nI (1)) hx hb dX10_layLongest_28 (by decide) ?_
        refine lv_isub hx hb dX10_layLongest_29 ?_
        refine tpi (dI_of _) ?_
        refine lv_istore_n (lv' := [(3, .int (dI (Vl v0))), (0, .ref (ad 114)), (1, .int (nI (v0))), (2, .int (nI (u0)))]) hx hb dX10_layLongest_30 rfl hl (by decide) rfl (fun ls hl => ?_)
        have L31 : ∀ (fu : Nat) (c9 : Nat) (G1 : Nat → Nat), (c9 ≤ Vl v0) → (LGo (VV v0) (VV u0) (Vl v0) (Vl u0) G1 c9) → c9 < fu → ∀ (g_2 : Nat → va_E) (H : Heap) (locs : List Loc), g_2 114 = mob ad (nI (n)) (nI (fa)) (nI (he)) (lN ov) (nI (un)) la bo (nI (tp)) ft (nI (wr0)) (nI (wa)) (nI (at0)) (nI (sp)) (nI (tk)) vl (nI (fi)) (nI (nm)) (nI (dp)) wy st (nI (aP)) (nI (aF)) (nI (aH)) (lN aO) (nI (ps)) (nI (mn)) go (nI (vi)) → g_2 141 = .inl (cy 1, 289, .inl (fun x9 => nI (G1 x9))) → (∀ j : Nat, j ≠ 114 → j ≠ 141 → g_2 j = g j) → MM D ad N g_2 H → va_S (AA ad N) s.heap H locs → ∀ (ls : Array Slot), lv_has ls 8 [(3, .int (dI c9)), (0, .ref (ad 114)), (1, .int (nI (v0))), (2, .int (nI (u0)))] → W p l e (rmF 0 0) s m [.ref (ad 114), .int (nI (v0)), .int (nI (u0))].toArray below meth c H locs 0 0 (MQ below (QV (fun g1 => ∃ (LG2 : Nat → Nat), (∀ i j, i < 17 → j < 17 → LG2 (17 * i + j) = lc (VV v0) (VV u0) (Vl v0) (Vl u0) i j) ∧ g1 114 = mob ad (nI (n)) (nI (fa)) (nI (he)) (lN ov) (nI (un)) la bo (nI (tp)) ft (nI (wr0)) (nI (wa)) (nI (at0)) (nI (sp)) (nI (tk)) vl (nI (fi)) (nI (nm)) (nI (dp)) wy st (nI (aP)) (nI (aF)) (nI (aH)) (lN aO) (nI (ps)) (nI (mn)) go (nI (vi)) ∧ g1 141 = .inl (cy 1, 289, .inl (fun x9 => nI (LG2 x9))) ∧ (∀ j, j ≠ 114 → j ≠ 141 → g1 j = g j)) D ad N) [.ref (ad 114), .int (nI (v0)), .int (nI (u0))].toArray s 0 0 (AA ad N)) (F0 m 31 ls []) := by
          intro fu
          induction fu with
          | zero => intro c9 G1 hc9 hGo hms g_2 H locs h114_2 h141_2 hfr_2 hP hS ls hl; exact absurd hms (Nat.not_lt_zero _)
          | succ fu ih31 =>
            intro c9 G1 hc9 hGo hms g_2 H locs h114_2 h141_2 hfr_2 hP hS ls hl
            have h139_2 : g_2 139 = .inl (cy 1, 4, .inl (fun x9 => nI (DM x9))) := (hfr_2 139 (by omega) (by omega)).trans hDM
            have h140_2 : g_2 140 = .inl (cy 1, 64, .inl (fun x9 => nI (DA x9))) := (hfr_2 140 (by omega) (by omega)).trans hDA
            refine lv_iload_n hx hb dX10_layLongest_31 rfl (lv_at hl 0 rfl) ?_
            refine lv_if_lt (tgt := 189) hx hb dX10_layLongest_32 (by decide) (fun c_32 => ?_) (fun c_32 => ?_)
            · skip
              have hc0 := dI_neg (c := c9) (by omega) rfl c_32
              exact rMv S hr hlk hP hS ⟨_, (fun i j hi hj => hGo i j hi hj (Or.inl (by omega))), h114_2, h141_2, hfr_2⟩ dX10_layLongest_189
            · skip
              obtain ⟨a9, rfl⟩ := dI_pos (c := c9) rfl c_32
              have hl : lv_has ls 8 [(3, .int (nI (a9))), (0, .ref (ad 114)), (1, .int (nI (v0))), (2, .int (nI (u0)))] := by rw [dI_s] at hl; exact hl
              refine lv_aload_n hx hb dX10_layLongest_35 rfl (lv_at hl 1 rfl) ?_
              refine mg S hK hP (by omega) h114_2 fd_X10_93 rfl dX10_layLongest_36 ?_
              refine lv_iload_n hx hb dX10_layLongest_39 rfl (lv_at hl 3 rfl) ?_
              refine mial S hK hP (by omega) h139_2 (vp_in_nI (by omega) (by omega)) dX10_layLongest_40 ?_
              refine tpi (congrArg ((fun x9 => nI (DM x9))) (nI_clamp (by omega))) ?_
              refine tpi (congrArg nI hr9.1) ?_
              refine lv_iconst (v := nI (1)) hx hb dX10_layLongest_41 (by decide) ?_
              refine lv_isub hx hb dX10_layLongest_42 ?_
              refine tpi (dI_of _) ?_
              refine lv_istore (lv' := [(4, .int (dI (Vl u0))), (3, .int (nI (a9))), (0, .ref (ad 114)), (1, .int (nI (v0))), (2, .int (nI (u0)))]) hx hb dX10_layLongest_43 hl (by decide) rfl (fun ls hl => ?_)
              have L45 : ∀ (fu : Nat) (d9 : Nat) (G2 : Nat → Nat), (d9 ≤ Vl u0) → (LGi (VV v0) (VV u0) (Vl v0) (Vl u0) G2 a9 d9) → d9 < fu → ∀ (g_3 : Nat → va_E) (H : Heap) (locs : List Loc), g_3 114 = mob ad (nI (n)) (nI (fa)) (nI (he)) (lN ov) (nI (un)) la bo (nI (tp)) ft (nI (wr0)) (nI (wa)) (nI (at0)) (nI (sp)) (nI (tk)) vl (nI (fi)) (nI (nm)) (nI (dp)) wy st (nI (aP)) (nI (aF)) (nI (aH)) (lN aO) (nI (ps)) (nI (mn)) go (nI (vi)) → g_3 141 = .inl (cy 1, 289, .inl (fun x9 => nI (G2 x9))) → (∀ j : Nat, j ≠ 114 → j ≠ 141 → g_3 j = g j) → MM D ad N g_3 H → va_S (AA ad N) s.heap H locs → ∀ (ls : Array Slot), lv_has ls 8 [(4, .int (dI d9)), (3, .int (nI (a9))), (0, .ref (ad 114)), (1, .int (nI (v0))), (2, .int (nI (u0)))] → W p l e (rmF 0 0) s m [.ref (ad 114), .int (nI (v0)), .int (nI (u0))].toArray below meth c H locs 0 0 (MQ below (QV (fun g1 => ∃ (LG2 : Nat → Nat), (∀ i j, i < 17 → j < 17 → LG2 (17 * i + j) = lc (VV v0) (VV u0) (Vl v0) (Vl u0) i j) ∧ g1 114 = mob ad (nI (n)) (nI (fa)) (nI (he)) (lN ov) (nI (un)) la bo (nI (tp)) ft (nI (wr0)) (nI (wa)) (nI (at0)) (nI (sp)) (nI (tk)) vl (nI (fi)) (nI (nm)) (nI (dp)) wy st (nI (aP)) (nI (aF)) (nI (aH)) (lN aO) (nI (ps)) (nI (mn)) go (nI (vi)) ∧ g1 141 = .inl (cy 1, 289, .inl (fun x9 => nI (LG2 x9))) ∧ (∀ j, j ≠ 114 → j ≠ 141 → g1 j = g j)) D ad N) [.ref (ad 114), .int (nI (v0)), .int (nI (u0))].toArray s 0 0 (AA ad N)) (F0 m 45 ls []) := by
                intro fu
                induction fu with
                | zero => intro d9 G2 hd9 hGi hms g_3 H locs h114_3 h141_3 hfr_3 hP hS ls hl; exact absurd hms (Nat.not_lt_zero _)
                | succ fu ih45 =>
                  intro d9 G2 hd9 hGi hms g_3 H locs h114_3 h141_3 hfr_3 hP hS ls hl
                  have h139_3 : g_3 139 = .inl (cy 1, 4, .inl (fun x9 => nI (DM x9))) := (hfr_3 139 (by omega) (by omega)).trans hDM
                  have h140_3 : g_3 140 = .inl (cy 1, 64, .inl (fun x9 => nI (DA x9))) := (hfr_3 140 (by omega) (by omega)).trans hDA
                  refine lv_iload hx hb dX10_layLongest_45 (lv_at hl 0 rfl) ?_
                  refine lv_if_lt (tgt := 183) hx hb dX10_layLongest_47 (by decide) (fun c_47 => ?_) (fun c_47 => ?_)
                  · skip
                    have hd0 := dI_neg (c := d9) (by omega) rfl c_47
                    refine lv_iinc (v := dI a9) (lv' := [(3, .int (dI a9)), (4, .int (dI d9)), (0, .ref (ad 114)), (1, .int (nI (v0))), (2, .int (nI (u0)))]) hx hb dX10_layLongest_183 hl (k := 1) rfl rfl (by decide) rfl (fun ls hl => ?_)
                    refine lv_goto (tgt := 31) hx hb dX10_layLongest_186 (by decide) ?_
                    exact ih31 a9 G2 (by omega) (LGi_out (by rw [← hd0]; exact hGi)) (by omega) g_3 _ _ h114_3 h141_3 hfr_3 hP hS _ (lv_sub hl [0, 2, 3, 4] rfl)
                  · skip
                    obtain ⟨b9, rfl⟩ := dI_pos (c := d9) rfl c_47
                    have hl : lv_has ls 8 [(4, .int (nI (b9))), (3, .int (nI (a9))), (0, .ref (ad 114)), (1, .int (nI (v0))), (2, .int (nI (u0)))] := by rw [dI_s] at hl; exact hl
                    refine lv_aload_n hx hb dX10_layLongest_50 rfl (lv_at hl 2 rfl) ?_
                    refine mg S hK hP (by omega) h114_3 fd_X10_99 rfl dX10_layLongest_51 ?_
                    refine lv_bipush (v := nI (17)) hx hb dX10_layLongest_54 (by decide) ?_
                    refine lv_iload_n hx hb dX10_layLongest_56 rfl (lv_at hl 1 rfl) ?_
                    refine lv_iconst (v := nI (1)) hx hb dX10_layLongest_57 (by decide) ?_
                    refine lv_iadd hx hb dX10_layLongest_58 ?_
                    refine tpi (nI_add a9 1) ?_
                    refine lv_imul hx hb dX10_layLongest_59 ?_
                    refine tpi (pk_mul 17 (a9 + 1)) ?_
                    refine lv_iload hx hb dX10_layLongest_60 (lv_at hl 0 rfl) ?_
                    refine lv_iadd hx hb dX10_layLongest_62 ?_
                    refine tpi (nI_add (17 * (a9 + 1)) b9) ?_
                    refine mial S hK hP (by omega) h141_3 (vp_in_nI (by omega) (by omega)) dX10_layLongest_63 ?_
                    refine tpi (congrArg ((fun x9 => nI (G2 x9))) (nI_clamp (by omega))) ?_
                    refine tpi (congrArg nI (hGi (a9 + 1) b9 (by omega) (by omega) (Or.inl (by omega)))) ?_
                    have ho9 := lc_16 (V1 := VV v0) (V2 := VV u0) (n2 := Vl u0) (i := a9 + 1) (j := b9) hq.2.1
                    refine lv_istore (lv' := [(5, .int (nI (lc (VV v0) (VV u0) (Vl v0) (Vl u0) (a9 + 1) b9))), (4, .int (nI (b9))), (3, .int (nI (a9))), (0, .ref (ad 114)), (1, .int (nI (v0))), (2, .int (nI (u0)))]) hx hb dX10_layLongest_64 hl (by decide) rfl (fun ls hl => ?_)
                    refine lv_aload_n hx hb dX10_layLongest_66 rfl (lv_at hl 3 rfl) ?_
                    refine mg S hK hP (by omega) h114_3 fd_X10_99 rfl dX10_layLongest_67 ?_
                    refine lv_bipush (v := nI (17)) hx hb dX10_layLongest_70 (by decide) ?_
                    refine lv_iload_n hx hb dX10_layLongest_72 rfl (lv_at hl 2 rfl) ?_
                    refine lv_imul hx hb dX10_layLongest_73 ?_
                    refine tpi (pk_mul 17 a9) ?_
                    refine lv_iload hx hb dX10_layLongest_74 (lv_at hl 1 rfl) ?_
                    refine lv_iadd hx hb dX10_layLongest_76 ?_
                    refine tpi (nI_add (17 * a9) b9) ?_
                    refine lv_iconst (v := nI (1)) hx hb dX10_layLongest_77 (by decide) ?_
                    refine lv_iadd hx hb dX10_layLongest_78 ?_
                    refine tpi (nI_add ((17 * a9) + b9) 1) ?_
                    refine tpi (rfl) ?_
                    refine mial S hK hP (by omega) h141_3 (vp_in_nI (by omega) (by omega)) dX10_layLongest_79 ?_
                    refine tpi (congrArg ((fun x9 => nI (G2 x9))) (nI_clamp (by omega))) ?_
                    refine tpi (congrArg nI (hGi a9 (b9 + 1) (by omega) (by omega) (Or.inr (Or.inr ⟨rfl, by omega⟩)))) ?_
                    have ht9 := lc_16 (V1 := VV v0) (V2 := VV u0) (n2 := Vl u0) (i := a9) (j := b9 + 1) hq.2.1
                    refine lv_istore (lv' := [(6, .int (nI (lc (VV v0) (VV u0) (Vl v0) (Vl u0) a9 (b9 + 1)))), (5, .int (nI (lc (VV v0) (VV u0) (Vl v0) (Vl u0) (a9 + 1) b9))), (4, .int (nI (b9))), (3, .int (nI (a9))), (0, .ref (ad 114)), (1, .int (nI (v0))), (2, .int (nI (u0)))]) hx hb dX10_layLongest_80 hl (by decide) rfl (fun ls hl => ?_)
                    refine lv_aload_n hx hb dX10_layLongest_82 rfl (lv_at hl 4 rfl) ?_
                    refine mg S hK hP (by omega) h114_3 fd_X10_96 rfl dX10_layLongest_83 ?_
                    refine lv_bipush (v := nI (16)) hx hb dX10_layLongest_86 (by decide) ?_
                    refine lv_iload_n hx hb dX10_layLongest_88 rfl (lv_at hl 5 rfl) ?_
                    refine lv_imul hx hb dX10_layLongest_89 ?_
                    refine tpi (pk_mul 16 v0) ?_
                    refine lv_iload_n hx hb dX10_layLongest_90 rfl (lv_at hl 3 rfl) ?_
                    refine lv_iadd hx hb dX10_layLongest_91 ?_
                    refine tpi (nI_add (16 * v0) a9) ?_
                    refine mial S hK hP (by omega) h140_3 (vp_in_nI (by omega) (by omega)) dX10_layLongest_92 ?_
                    refine tpi (congrArg ((fun x9 => nI (DA x9))) (nI_clamp (by omega))) ?_
                    refine tpi (congrArg nI (hq.2.2 a9 (by omega)).1) ?_
                    have hv8 := (hq.2.2 a9 (by omega)).2
                    refine lv_aload_n hx hb dX10_layLongest_93 rfl (lv_at hl 4 rfl) ?_
                    refine mg S hK hP (by omega) h114_3 fd_X10_96 rfl dX10_layLongest_94 ?_
                    refine lv_bipush (v := nI (16)) hx hb dX10_layLongest_97 (by decide) ?_
                    refine lv_iload_n hx hb dX10_layLongest_99 rfl (lv_at hl 6 rfl) ?_
                    refine lv_imul hx hb dX10_layLongest_100 ?_
                    refine tpi (pk_mul 16 u0) ?_
                    refine lv_iload hx hb dX10_layLongest_101 (lv_at hl 2 rfl) ?_
                    refine lv_iadd hx hb dX10_layLongest_103 ?_
                    refine tpi (nI_add (16 * u0) b9) ?_
                    refine mial S hK hP (by omega) h140_3 (vp_in_nI (by omega) (by omega)) dX10_layLongest_104 ?_
                    refine tpi (congrArg ((fun x9 => nI (DA x9))) (nI_clamp (by omega))) ?_
                    refine tpi (congrArg nI (hr9.2.2 b9 (by omega)).1) ?_
                    have hu8 := (hr9.2.2 b9 (by omega)).2
                    have J130 : ∀ (bo9 : Nat), (bo9 = if VV v0 a9 = VV u0 b9 then 1 + lc (VV v0) (VV u0) (Vl v0) (Vl u0) (a9 + 1) (b9 + 1) else 0) → (bo9 ≤ 17) → ∀ (ls : Array Slot), lv_has ls 8 [(6, .int (nI (lc (VV v0) (VV u0) (Vl v0) (Vl u0) a9 (b9 + 1)))), (5, .int (nI (lc (VV v0) (VV u0) (Vl v0) (Vl u0) (a9 + 1) b9))), (4, .int (nI (b9))), (3, .int (nI (a9))), (0, .ref (ad 114)), (1, .int (nI (v0))), (2, .int (nI (u0)))] → W p l e (rmF 0 0) s m [.ref (ad 114), .int (nI (v0)), .int (nI (u0))].toArray below meth c H locs 0 0 (MQ below (QV (fun g1 => ∃ (LG2 : Nat → Nat), (∀ i j, i < 17 → j < 17 → LG2 (17 * i + j) = lc (VV v0) (VV u0) (Vl v0) (Vl u0) i j) ∧ g1 114 = mob ad (nI (n)) (nI (fa)) (nI (he)) (lN ov) (nI (un)) la bo (nI (tp)) ft (nI (wr0)) (nI (wa)) (nI (at0)) (nI (sp)) (nI (tk)) vl (nI (fi)) (nI (nm)) (nI (dp)) wy st (nI (aP)) (nI (aF)) (nI (aH)) (lN aO) (nI (ps)) (nI (mn)) go (nI (vi)) ∧ g1 141 = .inl (cy 1, 289, .inl (fun x9 => nI (LG2 x9))) ∧ (∀ j, j ≠ 114 → j ≠ 141 → g1 j = g j)) D ad N) [.ref (ad 114), .int (nI (v0)), .int (nI (u0))].toArray s 0 0 (AA ad N)) (F0 m 130 ls [.int (nI (bo9))]) := by
                      intro bo9 hbo hbo9 ls hl
                      refine lv_istore (lv' := [(7, .int (nI (bo9))), (6, .int (nI (lc (VV v0) (VV u0) (Vl v0) (Vl u0) a9 (b9 + 1)))), (5, .int (nI (lc (VV v0) (VV u0) (Vl v0) (Vl u0) (a9 + 1) b9))), (4, .int (nI (b9))), (3, .int (nI (a9))), (0, .ref (ad 114)), (1, .int (nI (v0))), (2, .int (nI (u0)))]) hx hb dX10_layLongest_130 hl (by decide) rfl (fun ls hl => ?_)
                      refine lv_aload_n hx hb dX10_layLongest_132 rfl (lv_at hl 5 rfl) ?_
                      refine mg S hK hP (by omega) h114_3 fd_X10_99 rfl dX10_layLongest_133 ?_
                      refine lv_bipush (v := nI (17)) hx hb dX10_layLongest_136 (by decide) ?_
                      refine lv_iload_n hx hb dX10_layLongest_138 rfl (lv_at hl 4 rfl) ?_
                      refine lv_imul hx hb dX10_layLongest_139 ?_
                      refine tpi (pk_mul 17 a9) ?_
                      refine lv_iload hx hb dX10_layLongest_140 (lv_at hl 3 rfl) ?_
                      refine lv_iadd hx hb dX10_layLongest_142 ?_
                      refine tpi (nI_add (17 * a9) b9) ?_
                      have J176 : ∀ (q9 : Nat), (q9 = lc (VV v0) (VV u0) (Vl v0) (Vl u0) a9 b9) → ∀ (ls : Array Slot), lv_has ls 8 [(7, .int (nI (bo9))), (6, .int (nI (lc (VV v0) (VV u0) (Vl v0) (Vl u0) a9 (b9 + 1)))), (5, .int (nI (lc (VV v0) (VV u0) (Vl v0) (Vl u0) (a9 + 1) b9))), (4, .int (nI (b9))), (3, .int (nI (a9))), (0, .ref (ad 114)), (1, .int (nI (v0))), (2, .int (nI (u0)))] → W p l e (rmF 0 0) s m [.ref (ad 114), .int (nI (v0)), .int (nI (u0))].toArray below meth c H locs 0 0 (MQ below (QV (fun g1 => ∃ (LG2 : Nat → Nat), (∀ i j, i < 17 → j < 17 → LG2 (17 * i + j) = lc (VV v0) (VV u0) (Vl v0) (Vl u0) i j) ∧ g1 114 = mob ad (nI (n)) (nI (fa)) (nI (he)) (lN ov) (nI (un)) la bo (nI (tp)) ft (nI (wr0)) (nI (wa)) (nI (at0)) (nI (sp)) (nI (tk)) vl (nI (fi)) (nI (nm)) (nI (dp)) wy st (nI (aP)) (nI (aF)) (nI (aH)) (lN aO) (nI (ps)) (nI (mn)) go (nI (vi)) ∧ g1 141 = .inl (cy 1, 289, .inl (fun x9 => nI (LG2 x9))) ∧ (∀ j, j ≠ 114 → j ≠ 141 → g1 j = g j)) D ad N) [.ref (ad 114), .int (nI (v0)), .int (nI (u0))].toArray s 0 0 (AA ad N)) (F0 m 176 ls [.int (nI (q9)), .int (nI ((17 * a9) + b9)), .ref (ad 141)]) := by
                        intro q9 hx9 ls hl
                        refine mias S hK hP hI hS (by omega) h141_3 (vp_in_nI (by omega) (by omega)) dX10_layLongest_176 (fun g_4 H locs eg_4 hP hS => ?_)
                        have h141_4 : g_4 141 = .inl (cy 1, 289, .inl (fun x9 => nI ((va_up G2 ((17 * a9) + b9) q9) x9))) := by rw [eg_4, va_up_self]; exact (arrN_up (by omega))
                        have h114_4 : g_4 114 = mob ad (nI (n)) (nI (fa)) (nI (he)) (lN ov) (nI (un)) la bo (nI (tp)) ft (nI (wr0)) (nI (wa)) (nI (at0)) (nI (sp)) (nI (tk)) vl (nI (fi)) (nI (nm)) (nI (dp)) wy st (nI (aP)) (nI (aF)) (nI (aH)) (lN aO) (nI (ps)) (nI (mn)) go (nI (vi)) := ((congrFun eg_4 _).trans (va_up_ne _ _ (by omega))).trans h114_3
                        have h139_4 : g_4 139 = .inl (cy 1, 4, .inl (fun x9 => nI (DM x9))) := ((congrFun eg_4 _).trans (va_up_ne _ _ (by omega))).trans h139_3
                        have h140_4 : g_4 140 = .inl (cy 1, 64, .inl (fun x9 => nI (DA x9))) := ((congrFun eg_4 _).trans (va_up_ne _ _ (by omega))).trans h140_3
                        have hfr_4 : ∀ j : Nat, j ≠ 114 → j ≠ 141 → g_4 j = g j := fun j n0 n1 => ((congrFun eg_4 _).trans (va_up_ne _ _ n1)).trans (hfr_3 j n0 n1)
                        refine lv_iinc (v := dI b9) (lv' := [(4, .int (dI b9)), (7, .int (nI (bo9))), (6, .int (nI (lc (VV v0) (VV u0) (Vl v0) (Vl u0) a9 (b9 + 1)))), (5, .int (nI (lc (VV v0) (VV u0) (Vl v0) (Vl u0) (a9 + 1) b9))), (3, .int (nI (a9))), (0, .ref (ad 114)), (1, .int (nI (v0))), (2, .int (nI (u0)))]) hx hb dX10_layLongest_177 hl (k := 3) rfl rfl (by decide) rfl (fun ls hl => ?_)
                        refine lv_goto (tgt := 45) hx hb dX10_layLongest_180 (by decide) ?_
                        exact ih45 b9 (va_up G2 ((17 * a9) + b9) q9) (by omega) (LGi_s hGi (by omega) (by omega) hx9) (by omega) g_4 _ _ h114_4 h141_4 hfr_4 hP hS _ (lv_sub hl [0, 4, 5, 6, 7] rfl)
                      have h3 := lg3 (a := a9) (b := b9) (show a9 < Vl v0 by omega) (show b9 < Vl u0 by omega) rfl rfl hbo
                      refine lv_iload hx hb dX10_layLongest_143 (lv_at hl 0 rfl) ?_
                      refine lv_iload hx hb dX10_layLongest_145 (lv_at hl 2 rfl) ?_
                      refine lv_icmp_le (tgt := 162) hx hb dX10_layLongest_147 (by decide) (fun c_147 => ?_) (fun c_147 => ?_)
                      · skip
                        have c_147 := (nI_leI (by omega) (by omega)).mp c_147
                        refine lv_iload hx hb dX10_layLongest_162 (lv_at hl 2 rfl) ?_
                        refine lv_iload hx hb dX10_layLongest_164 (lv_at hl 1 rfl) ?_
                        refine lv_icmp_le (tgt := 174) hx hb dX10_layLongest_166 (by decide) (fun c_166 => ?_) (fun c_166 => ?_)
                        · skip
                          have c_166 := (nI_leI (by omega) (by omega)).mp c_166
                          refine lv_iload hx hb dX10_layLongest_174 (lv_at hl 1 rfl) ?_
                          exact J176 (lc (VV v0) (VV u0) (Vl v0) (Vl u0) a9 (b9 + 1)) ((h3.2 (by first | exact fun q => q.1 c_147 | exact fun q => q.2 c_154)).2 c_166) _ (lv_sub hl [0, 1, 2, 3, 4, 5, 6, 7] rfl)
                        · skip
                          have c_166 := (not_congr (nI_leI (by omega) (by omega))).mp c_166
                          refine lv_iload hx hb dX10_layLongest_169 (lv_at hl 2 rfl) ?_
                          refine lv_goto (tgt := 176) hx hb dX10_layLongest_171 (by decide) ?_
                          exact J176 (lc (VV v0) (VV u0) (Vl v0) (Vl u0) (a9 + 1) b9) ((h3.2 (by first | exact fun q => q.1 c_147 | exact fun q => q.2 c_154)).1 c_166) _ (lv_sub hl [0, 1, 2, 3, 4, 5, 6, 7] rfl)
                      · skip
                        have c_147 := (not_congr (nI_leI (by omega) (by omega))).mp c_147
                        refine lv_iload hx hb dX10_layLongest_150 (lv_at hl 0 rfl) ?_
                        refine lv_iload hx hb dX10_layLongest_152 (lv_at hl 1 rfl) ?_
                        refine lv_icmp_le (tgt := 162) hx hb dX10_layLongest_154 (by decide) (fun c_154 => ?_) (fun c_154 => ?_)
                        · skip
                          have c_154 := (nI_leI (by omega) (by omega)).mp c_154
                          refine lv_iload hx hb dX10_layLongest_162 (lv_at hl 2 rfl) ?_
                          refine lv_iload hx hb dX10_layLongest_164 (lv_at hl 1 rfl) ?_
                          refine lv_icmp_le (tgt := 174) hx hb dX10_layLongest_166 (by decide) (fun c_166 => ?_) (fun c_166 => ?_)
                          · skip
                            have c_166 := (nI_leI (by omega) (by omega)).mp c_166
                            refine lv_iload hx hb dX10_layLongest_174 (lv_at hl 1 rfl) ?_
                            exact J176 (lc (VV v0) (VV u0) (Vl v0) (Vl u0) a9 (b9 + 1)) ((h3.2 (by first | exact fun q => q.1 c_147 | exact fun q => q.2 c_154)).2 c_166) _ (lv_sub hl [0, 1, 2, 3, 4, 5, 6, 7] rfl)
                          · skip
                            have c_166 := (not_congr (nI_leI (by omega) (by omega))).mp c_166
                            refine lv_iload hx hb dX10_layLongest_169 (lv_at hl 2 rfl) ?_
                            refine lv_goto (tgt := 176) hx hb dX10_layLongest_171 (by decide) ?_
                            exact J176 (lc (VV v0) (VV u0) (Vl v0) (Vl u0) (a9 + 1) b9) ((h3.2 (by first | exact fun q => q.1 c_147 | exact fun q => q.2 c_154)).1 c_166) _ (lv_sub hl [0, 1, 2, 3, 4, 5, 6, 7] rfl)
                        · skip
                          have c_154 := (not_congr (nI_leI (by omega) (by omega))).mp c_154
                          refine lv_iload hx hb dX10_layLongest_157 (lv_at hl 0 rfl) ?_
                          refine lv_goto (tgt := 176) hx hb dX10_layLongest_159 (by decide) ?_
                          exact J176 bo9 (h3.1 ⟨c_147, c_154⟩) _ (lv_sub hl [0, 1, 2, 3, 4, 5, 6, 7] rfl)
                    refine lv_icmp_ne (tgt := 129) hx hb dX10_layLongest_105 (by decide) (fun c_105 => ?_) (fun c_105 => ?_)
                    · skip
                      have c_105 := (not_congr (nI_eq (by omega) (by omega))).mp c_105
                      refine lv_iconst (v := nI (0)) hx hb dX10_layLongest_129 (by decide) ?_
                      exact J130 0 (by rw [if_neg c_105]) (by omega) _ (lv_sub hl [0, 1, 2, 3, 4, 5, 6] rfl)
                    · skip
                      have c_105 := (nI_eq (by omega) (by omega)).mp c_105
                      refine lv_iconst (v := nI (1)) hx hb dX10_layLongest_108 (by decide) ?_
                      refine lv_aload_n hx hb dX10_layLongest_109 rfl (lv_at hl 4 rfl) ?_
                      refine mg S hK hP (by omega) h114_3 fd_X10_99 rfl dX10_layLongest_110 ?_
                      refine lv_bipush (v := nI (17)) hx hb dX10_layLongest_113 (by decide) ?_
                      refine lv_iload_n hx hb dX10_layLongest_115 rfl (lv_at hl 3 rfl) ?_
                      refine lv_iconst (v := nI (1)) hx hb dX10_layLongest_116 (by decide) ?_
                      refine lv_iadd hx hb dX10_layLongest_117 ?_
                      refine tpi (nI_add a9 1) ?_
                      refine lv_imul hx hb dX10_layLongest_118 ?_
                      refine tpi (pk_mul 17 (a9 + 1)) ?_
                      refine lv_iload hx hb dX10_layLongest_119 (lv_at hl 2 rfl) ?_
                      refine lv_iadd hx hb dX10_layLongest_121 ?_
                      refine tpi (nI_add (17 * (a9 + 1)) b9) ?_
                      refine lv_iconst (v := nI (1)) hx hb dX10_layLongest_122 (by decide) ?_
                      refine lv_iadd hx hb dX10_layLongest_123 ?_
                      refine tpi (nI_add ((17 * (a9 + 1)) + b9) 1) ?_
                      refine tpi (rfl) ?_
                      refine mial S hK hP (by omega) h141_3 (vp_in_nI (by omega) (by omega)) dX10_layLongest_124 ?_
                      refine tpi (congrArg ((fun x9 => nI (G2 x9))) (nI_clamp (by omega))) ?_
                      refine tpi (congrArg nI (hGi (a9 + 1) (b9 + 1) (by omega) (by omega) (Or.inl (by omega)))) ?_
                      have hb9 := lc_16 (V1 := VV v0) (V2 := VV u0) (n2 := Vl u0) (i := a9 + 1) (j := b9 + 1) hq.2.1
                      refine lv_iadd hx hb dX10_layLongest_125 ?_
                      refine tpi (nI_add 1 (lc (VV v0) (VV u0) (Vl v0) (Vl u0) (a9 + 1) (b9 + 1))) ?_
                      refine lv_goto (tgt := 130) hx hb dX10_layLongest_126 (by decide) ?_
                      exact J130 (1 + (lc (VV v0) (VV u0) (Vl v0) (Vl u0) (a9 + 1) (b9 + 1))) (by rw [if_pos c_105]) (by omega) _ (lv_sub hl [0, 1, 2, 3, 4, 5, 6] rfl)
              exact L45 (((Vl u0)) + 1) (Vl u0) G1 (by omega) (LGi_in hGo) (Nat.lt_succ_self _) g_2 _ _ h114_2 h141_2 hfr_2 hP hS _ (lv_sub hl [0, 1, 2, 3, 4] rfl)
        exact L31 (((Vl v0)) + 1) (Vl v0) G1 (by omega) (LGo_0 (fun k hk => hG1 k (by omega))) (Nat.lt_succ_self _) g_1 _ _ h114_1 h141_1 hfr_1 hP hS _ (lv_sub hl [0, 1, 2, 3] rfl)
      · skip
        have c_6 := (not_congr (nI_leI (by omega) (by omega))).mp c_6
        refine lv_aload_n hx hb dX10_layLongest_9 rfl (lv_at hl 1 rfl) ?_
        refine mg S hK hP (by omega) h114_1 fd_X10_99 rfl dX10_layLongest_10 ?_
        refine lv_iload_n hx hb dX10_layLongest_13 rfl (lv_at hl 0 rfl) ?_
        refine lv_iconst (v := nI (0)) hx hb dX10_layLongest_14 (by decide) ?_
        refine mias S hK hP hI hS (by omega) h141_1 (vp_in_nI (by omega) (by omega)) dX10_layLongest_15 (fun g_5 H locs eg_5 hP hS => ?_)
        have h141_5 : g_5 141 = .inl (cy 1, 289, .inl (fun x9 => nI ((va_up G1 k9 0) x9))) := by rw [eg_5, va_up_self]; exact (arrN_up (by omega))
        have h114_5 : g_5 114 = mob ad (nI (n)) (nI (fa)) (nI (he)) (lN ov) (nI (un)) la bo (nI (tp)) ft (nI (wr0)) (nI (wa)) (nI (at0)) (nI (sp)) (nI (tk)) vl (nI (fi)) (nI (nm)) (nI (dp)) wy st (nI (aP)) (nI (aF)) (nI (aH)) (lN aO) (nI (ps)) (nI (mn)) go (nI (vi)) := ((congrFun eg_5 _).trans (va_up_ne _ _ (by omega))).trans h114_1
        have h139_5 : g_5 139 = .inl (cy 1, 4, .inl (fun x9 => nI (DM x9))) := ((congrFun eg_5 _).trans (va_up_ne _ _ (by omega))).trans h139_1
        have h140_5 : g_5 140 = .inl (cy 1, 64, .inl (fun x9 => nI (DA x9))) := ((congrFun eg_5 _).trans (va_up_ne _ _ (by omega))).trans h140_1
        have hfr_5 : ∀ j : Nat, j ≠ 114 → j ≠ 141 → g_5 j = g j := fun j n0 n1 => ((congrFun eg_5 _).trans (va_up_ne _ _ n1)).trans (hfr_1 j n0 n1)
        refine lv_iinc (v := nI (k9 + 1)) (lv' := [(3, .int (nI (k9 + 1))), (0, .ref (ad 114)), (1, .int (nI (v0))), (2, .int (nI (u0)))]) hx hb dX10_layLongest_16 hl (k := 0) rfl (by exact nI_add k9 1) (by decide) rfl (fun ls hl => ?_)
        refine lv_goto (tgt := 2) hx hb dX10_layLongest_19 (by decide) ?_
        exact ih2 (k9 + 1) (va_up G1 k9 0) (by omega) (lt_sn (fun j hj => by rw [va_up_ne _ _ (by omega)]; exact hG1 j hj) (va_up_self _ _ _)) (by omega) g_5 _ _ h114_5 h141_5 hfr_5 hP hS _ (lv_sub hl [0, 1, 2, 3] rfl)
  exact L2 ((289 - 0) + 1) 0 LG (by omega) (fun j q => absurd q (Nat.not_lt_zero _)) (Nat.lt_succ_self _) g _ _ hM hLG (fun j n0 n1 => hfr j ) hP hS _ (lv_sub hl [0, 1, 2, 3] rfl)
set_option maxHeartbeats 4000000 in
set_option maxRecDepth 100000 in
theorem c_X10_firstOf (l : Launch) (D : va_G) (cy : Nat → ClassId) (ad : Nat → Nat) (N : Nat) (g : Nat → va_E) (hN : 145 ≤ N) (n : Nat) (fa : Nat) (he : Nat) (ov : Nat) (un : Nat) (la : Int32) (bo : Int32) (tp : Nat) (ft : Int32) (wr0 : Nat) (wa : Nat) (at0 : Nat) (sp : Nat) (tk : Nat) (vl : Int32) (fi : Nat) (nm : Nat) (dp : Nat) (wy : Int32) (st : Int32) (aP : Nat) (aF : Nat) (aH : Nat) (aO : Nat) (ps : Nat) (mn : Nat) (go : Int32) (vi : Nat) (hM : g 114 = mob ad (nI (n)) (nI (fa)) (nI (he)) (lN ov) (nI (un)) la bo (nI (tp)) ft (nI (wr0)) (nI (wa)) (nI (at0)) (nI (sp)) (nI (tk)) vl (nI (fi)) (nI (nm)) (nI (dp)) wy st (nI (aP)) (nI (aF)) (nI (aH)) (lN aO) (nI (ps)) (nI (mn)) go (nI (vi))) (DM : Nat → Nat) (hDM : g 139 = .inl (cy 1, 4, .inl (fun x9 => nI (DM x9)))) (DA : Nat → Nat) (hDA : g 140 = .inl (cy 1, 64, .inl (fun x9 => nI (DA x9)))) (Vl : Nat → Nat) (VV : Nat → Nat → Nat) (hvi : vi ≤ 4) (hVR : VR vi fi DM DA Vl VV) (hfi : fi ≤ 8) (v0 : Nat) (hv0 : v0 < vi) (fr : Nat) (hfr9 : fr ≤ Vl v0) (f0 : Nat) (hf0 : f0 < 8) : Met l yX10_firstOf (WS yX10_firstOf cX10_firstOf 5 (some .int)) (rmF 0 0) (PP [.ref (ad 114), .int (nI (v0)), .int (nI (fr)), .int (nI (f0))] D cy ad N g) (vp_Si (fun r => r = nI (if pfr (VV v0) (Vl v0) f0 fr < Vl v0 then pfr (VV v0) (Vl v0) f0 fr else 16))) 0 0 (fun _ => False) := by
  refine mentry (by decide) (Nat.le_of_ble_eq_true rfl) (fun p e s m below meth c ls S hr hlk hnm hP hK hl => ?_)
  have S : CallFix p m c cX10_firstOf 5 s _ wsL_law RX10 := S
  have hx := S.1
  have hb := S.2.1
  have hl : lv_has ls 5 [(0, .ref (ad 114)), (1, .int (nI (v0))), (2, .int (nI (fr))), (3, .int (nI (f0)))] := hl
  have hq := hVR.1 v0 hv0
  have hpl := pfr_le (V := VV v0) (f := f0) hfr9
  refine lv_iload_n hx hb dX10_firstOf_0 rfl (lv_at hl 2 rfl) ?_
  refine lv_istore (lv' := [(4, .int (nI (fr))), (0, .ref (ad 114)), (1, .int (nI (v0))), (2, .int (nI (fr))), (3, .int (nI (f0)))]) hx hb dX10_firstOf_1 hl (by decide) rfl (fun ls hl => ?_)
  have L3 : ∀ (fu : Nat) (k9 : Nat), (k9 ≤ Vl v0) → (fr ≤ k9) → (∀ j, fr ≤ j → j < k9 → decide (VV v0 j = f0) = false) → (Vl v0 - k9) < fu → ∀ (ls : Array Slot), lv_has ls 5 [(4, .int (nI (k9))), (0, .ref (ad 114)), (1, .int (nI (v0))), (2, .int (nI (fr))), (3, .int (nI (f0)))] → W p l e (rmF 0 0) s m [.ref (ad 114), .int (nI (v0)), .int (nI (fr)), .int (nI (f0))].toArray below meth c s.heap [] 0 0 (MQ below (vp_Si (fun r => r = nI (if pfr (VV v0) (Vl v0) f0 fr < Vl v0 then pfr (VV v0) (Vl v0) f0 fr else 16))) [.ref (ad 114), .int (nI (v0)), .int (nI (fr)), .int (nI (f0))].toArray s 0 0 (fun _ => False)) (F0 m 3 ls []) := by
    intro fu
    induction fu with
    | zero => intro k9 hk9 hkf hno hms ls hl; exact absurd hms (Nat.not_lt_zero _)
    | succ fu ih3 =>
      intro k9 hk9 hkf hno hms ls hl
      refine lv_iload hx hb dX10_firstOf_3 (lv_at hl 0 rfl) ?_
      refine lv_aload_n hx hb dX10_firstOf_5 rfl (lv_at hl 1 rfl) ?_
      refine mg S hK hP (by omega) hM fd_X10_93 rfl dX10_firstOf_6 ?_
      refine lv_iload_n hx hb dX10_firstOf_9 rfl (lv_at hl 2 rfl) ?_
      refine mial S hK hP (by omega) hDM (vp_in_nI (by omega) (by omega)) dX10_firstOf_10 ?_
      refine tpi (congrArg ((fun x9 => nI (DM x9))) (nI_clamp (by omega))) ?_
      refine tpi (congrArg nI hq.1) ?_
      refine lv_icmp_ge (tgt := 36) hx hb dX10_firstOf_11 (by decide) (fun c_11 => ?_) (fun c_11 => ?_)
      · skip
        have c_11 := (nI_leI (by omega) (by omega)).mp c_11
        have hE : pfr (VV v0) (Vl v0) f0 fr = k9 := by rw [show k9 = Vl v0 by omega]; exact fsr_none hfr9 (fun j a b => hno j a (by omega))
        refine lv_iload hx hb dX10_firstOf_36 (lv_at hl 0 rfl) ?_
        refine lv_aload_n hx hb dX10_firstOf_38 rfl (lv_at hl 1 rfl) ?_
        refine mg S hK hP (by omega) hM fd_X10_93 rfl dX10_firstOf_39 ?_
        refine lv_iload_n hx hb dX10_firstOf_42 rfl (lv_at hl 2 rfl) ?_
        refine mial S hK hP (by omega) hDM (vp_in_nI (by omega) (by omega)) dX10_firstOf_43 ?_
        refine tpi (congrArg ((fun x9 => nI (DM x9))) (nI_clamp (by omega))) ?_
        refine tpi (congrArg nI hq.1) ?_
        refine lv_icmp_ge (tgt := 52) hx hb dX10_firstOf_44 (by decide) (fun c_44 => ?_) (fun c_44 => ?_)
        · skip
          have c_44 := (nI_leI (by omega) (by omega)).mp c_44
          refine lv_bipush (v := nI (16)) hx hb dX10_firstOf_52 (by decide) ?_
          exact rSi S hr hlk (by rw [hE, if_neg (by omega)]) dX10_firstOf_54
        · skip
          have c_44 := (not_congr (nI_leI (by omega) (by omega))).mp c_44
          refine lv_iload hx hb dX10_firstOf_47 (lv_at hl 0 rfl) ?_
          refine lv_goto (tgt := 54) hx hb dX10_firstOf_49 (by decide) ?_
          exact rSi S hr hlk (by rw [hE, if_pos (by omega)]) dX10_firstOf_54
      · skip
        have c_11 := (not_congr (nI_leI (by omega) (by omega))).mp c_11
        refine lv_aload_n hx hb dX10_firstOf_14 rfl (lv_at hl 1 rfl) ?_
        refine mg S hK hP (by omega) hM fd_X10_96 rfl dX10_firstOf_15 ?_
        refine lv_bipush (v := nI (16)) hx hb dX10_firstOf_18 (by decide) ?_
        refine lv_iload_n hx hb dX10_firstOf_20 rfl (lv_at hl 2 rfl) ?_
        refine lv_imul hx hb dX10_firstOf_21 ?_
        refine tpi (pk_mul 16 v0) ?_
        refine lv_iload hx hb dX10_firstOf_22 (lv_at hl 0 rfl) ?_
        refine lv_iadd hx hb dX10_firstOf_24 ?_
        refine tpi (nI_add (16 * v0) k9) ?_
        refine mial S hK hP (by omega) hDA (vp_in_nI (by omega) (by omega)) dX10_firstOf_25 ?_
        refine tpi (congrArg ((fun x9 => nI (DA x9))) (nI_clamp (by omega))) ?_
        refine tpi (congrArg nI (hq.2.2 k9 (by omega)).1) ?_
        have hv8 : VV v0 k9 < 2 ^ 31 := by have := (hq.2.2 k9 (by omega)).2; omega
        refine lv_iload_n hx hb dX10_firstOf_26 rfl (lv_at hl 4 rfl) ?_
        refine lv_icmp_eq (tgt := 36) hx hb dX10_firstOf_27 (by decide) (fun c_27 => ?_) (fun c_27 => ?_)
        · skip
          have c_27 := (nI_eq (by omega) (by omega)).mp c_27
          have hE : pfr (VV v0) (Vl v0) f0 fr = k9 := fsr_stop hkf (by omega) hno (decide_eq_true c_27)
          refine lv_iload hx hb dX10_firstOf_36 (lv_at hl 0 rfl) ?_
          refine lv_aload_n hx hb dX10_firstOf_38 rfl (lv_at hl 1 rfl) ?_
          refine mg S hK hP (by omega) hM fd_X10_93 rfl dX10_firstOf_39 ?_
          refine lv_iload_n hx hb dX10_firstOf_42 rfl (lv_at hl 2 rfl) ?_
          refine mial S hK hP (by omega) hDM (vp_in_nI (by omega) (by omega)) dX10_firstOf_43 ?_
          refine tpi (congrArg ((fun x9 => nI (DM x9))) (nI_clamp (by omega))) ?_
          refine tpi (congrArg nI hq.1) ?_
          refine lv_icmp_ge (tgt := 52) hx hb dX10_firstOf_44 (by decide) (fun c_44 => ?_) (fun c_44 => ?_)
          · skip
            have c_44 := (nI_leI (by omega) (by omega)).mp c_44
            refine lv_bipush (v := nI (16)) hx hb dX10_firstOf_52 (by decide) ?_
            exact rSi S hr hlk (by rw [hE, if_neg (by omega)]) dX10_firstOf_54
          · skip
            have c_44 := (not_congr (nI_leI (by omega) (by omega))).mp c_44
            refine lv_iload hx hb dX10_firstOf_47 (lv_at hl 0 rfl) ?_
            refine lv_goto (tgt := 54) hx hb dX10_firstOf_49 (by decide) ?_
            exact rSi S hr hlk (by rw [hE, if_pos (by omega)]) dX10_firstOf_54
        · skip
          have c_27 := (not_congr (nI_eq (by omega) (by omega))).mp c_27
          refine lv_iinc (v := nI (k9 + 1)) (lv' := [(4, .int (nI (k9 + 1))), (0, .ref (ad 114)), (1, .int (nI (v0))), (2, .int (nI (fr))), (3, .int (nI (f0)))]) hx hb dX10_firstOf_30 hl (k := 0) rfl (by exact nI_add k9 1) (by decide) rfl (fun ls hl => ?_)
          refine lv_goto (tgt := 3) hx hb dX10_firstOf_33 (by decide) ?_
          exact ih3 (k9 + 1) (by omega) (by omega) (fun j a b => by by_cases e : j = k9; (rw [e]; exact decide_eq_false c_27); exact hno j a (by omega)) (by omega) _ (lv_sub hl [0, 1, 2, 3, 4] rfl)
  exact L3 ((Vl v0 - fr) + 1) fr (by omega) (by omega) (fun j a b => by omega) (Nat.lt_succ_self _) _ (lv_sub hl [0, 1, 2, 3, 4] rfl)
set_option maxHeartbeats 4000000 in
set_option maxRecDepth 100000 in
theorem c_X10_shared (l : Launch) (D : va_G) (cy : Nat → ClassId) (ad : Nat → Nat) (N : Nat) (g : Nat → va_E) (hinj : ∀ i j : Nat, i < N → j < N → ad i = ad j → i = j) (hN : 145 ≤ N) (n : Nat) (fa : Nat) (he : Nat) (ov : Nat) (un : Nat) (la : Int32) (bo : Int32) (tp : Nat) (ft : Int32) (wr0 : Nat) (wa : Nat) (at0 : Nat) (sp : Nat) (tk : Nat) (vl : Int32) (fi : Nat) (nm : Nat) (dp : Nat) (wy : Int32) (st : Int32) (aP : Nat) (aF : Nat) (aH : Nat) (aO : Nat) (ps : Nat) (mn : Nat) (go : Int32) (vi : Nat) (hM : g 114 = mob ad (nI (n)) (nI (fa)) (nI (he)) (lN ov) (nI (un)) la bo (nI (tp)) ft (nI (wr0)) (nI (wa)) (nI (at0)) (nI (sp)) (nI (tk)) vl (nI (fi)) (nI (nm)) (nI (dp)) wy st (nI (aP)) (nI (aF)) (nI (aH)) (lN aO) (nI (ps)) (nI (mn)) go (nI (vi))) (DM : Nat → Nat) (hDM : g 139 = .inl (cy 1, 4, .inl (fun x9 => nI (DM x9)))) (DA : Nat → Nat) (hDA : g 140 = .inl (cy 1, 64, .inl (fun x9 => nI (DA x9)))) (Vl : Nat → Nat) (VV : Nat → Nat → Nat) (hvi : vi ≤ 4) (hVR : VR vi fi DM DA Vl VV) (LG : Nat → Nat) (hLG : g 141 = .inl (cy 1, 289, .inl (fun x9 => nI (LG x9)))) (hfi : fi ≤ 8) (hVV : ∀ j i, VV j i < 8) (x0 : Int32) (y0 : Int32) (z0 : Int32) : Met l yX10_shared (WS yX10_shared cX10_shared 12 (some .int)) (rmF 2 46) (PP [.ref (ad 114), .int x0, .int y0, .int z0] D cy ad N g) (QI (fun r g1 => ∃ (LG2 : Nat → Nat), (r = if (isI x0 vi ∧ isI y0 vi ∧ (¬ z0 < 0 ∨ z0 = -4)) then (if z0 = -4 then nI (lc (VV x0.toNatClampNeg) (VV y0.toNatClampNeg) (Vl x0.toNatClampNeg) (Vl y0.toNatClampNeg) 0 0) else if z0 < nI (lc (VV x0.toNatClampNeg) (VV y0.toNatClampNeg) (Vl x0.toNatClampNeg) (Vl y0.toNatClampNeg) 0 0) then nI (sfg (VV x0.toNatClampNeg) (VV y0.toNatClampNeg) (Vl x0.toNatClampNeg) (Vl y0.toNatClampNeg) z0.toNatClampNeg) else -4) else -1) ∧ g1 114 = mob ad (nI (n)) (nI (fa)) (nI (he)) (lN ov) (nI (un)) la bo (nI (tp)) ft (nI (wr0)) (nI (wa)) (nI (at0)) (nI (sp)) (nI (tk)) vl (nI (fi)) (nI (nm)) (nI (dp)) wy st (nI (aP)) (nI (aF)) (nI (aH)) (lN aO) (nI (ps)) (nI (mn)) go (nI (vi)) ∧ g1 141 = .inl (cy 1, 289, .inl (fun x9 => nI (LG2 x9))) ∧ (∀ j, j ≠ 114 → j ≠ 141 → g1 j = g j)) D ad N) 0 0 (AA ad N) := by
  refine mentry (by decide) (Nat.le_of_ble_eq_true rfl) (fun p e s m below meth c ls S hr hlk hnm hP hK hl => ?_)
  have S : CallFix p m c cX10_shared 12 s _ wsL_law RX10 := S
  have hx := S.1
  have hb := S.2.1
  have hl : lv_has ls 12 [(0, .ref (ad 114)), (1, .int x0), (2, .int y0), (3, .int z0)] := hl
  have hI : MD (AA ad N) ad N := MD.in hinj
  have hS : va_S (AA ad N) s.heap s.heap [] := va_S.rf
  have hfr : ∀ j : Nat, g j = g j := fun _ => rfl
  refine lv_aload_n hx hb dX10_shared_0 rfl (lv_at hl 0 rfl) ?_
  refine lv_iload_n hx hb dX10_shared_1 rfl (lv_at hl 1 rfl) ?_
  refine kVi (As := [.int x0]) (rest := []) S hK hP (c_X10_isVillage l D cy ad N g (by omega) n fa he ov un la bo tp ft wr0 wa at0 sp tk vl fi nm dp wy st aP aF aH aO ps mn go vi hM hvi x0) cv_X10_363 (by omega) hM ⟨_, _, rfl⟩ ⟨rfl, rfl⟩ rfl hl.1 rfl (Nat.le_of_ble_eq_true rfl) ⟨Nat.zero_le _, Nat.zero_le _⟩ dX10_shared_2 (fun r_2 q_2 => ?_)
  subst q_2
  refine lv_if_eq (tgt := 26) hx hb dX10_shared_5 (by decide) (fun c_5 => ?_) (fun c_5 => ?_)
  · skip
    have c_5 := bz_eq.mp c_5
    have hC : ¬ (isI x0 vi ∧ isI y0 vi ∧ (¬ z0 < 0 ∨ z0 = -4)) := fun q => c_5 q.1
    refine lv_iconst (v := (-1)) hx hb dX10_shared_26 (by decide) ?_
    exact rMi S hr hlk hP hS ⟨LG, (if_neg hC).symm, hM, hLG, (fun j n0 n1 => hfr j )⟩ dX10_shared_27
  · skip
    have c_5 := bz_ne.mp c_5
    obtain ⟨k0, hk0b, rfl⟩ := isI_nat (by omega) c_5
    have hJ := c_5
    have hk031 : k0 < 2 ^ 31 := by omega
    have hq := hVR.1 k0 hk0b
    refine lv_aload_n hx hb dX10_shared_8 rfl (lv_at hl 0 rfl) ?_
    refine lv_iload_n hx hb dX10_shared_9 rfl (lv_at hl 2 rfl) ?_
    refine kVi (As := [.int y0]) (rest := []) S hK hP (c_X10_isVillage l D cy ad N g (by omega) n fa he ov un la bo tp ft wr0 wa at0 sp tk vl fi nm dp wy st aP aF aH aO ps mn go vi hM hvi y0) cv_X10_363 (by omega) hM ⟨_, _, rfl⟩ ⟨rfl, rfl⟩ rfl hl.1 rfl (Nat.le_of_ble_eq_true rfl) ⟨Nat.zero_le _, Nat.zero_le _⟩ dX10_shared_10 (fun r_10 q_10 => ?_)
    subst q_10
    refine lv_if_eq (tgt := 26) hx hb dX10_shared_13 (by decide) (fun c_13 => ?_) (fun c_13 => ?_)
    · skip
      have c_13 := bz_eq.mp c_13
      have hC : ¬ (isI (nI k0) vi ∧ isI y0 vi ∧ (¬ z0 < 0 ∨ z0 = -4)) := fun q => c_13 q.2.1
      refine lv_iconst (v := (-1)) hx hb dX10_shared_26 (by decide) ?_
      exact rMi S hr hlk hP hS ⟨LG, (if_neg hC).symm, hM, hLG, (fun j n0 n1 => hfr j )⟩ dX10_shared_27
    · skip
      have c_13 := bz_ne.mp c_13
      have hJ0 := hJ
      obtain ⟨u0, hu0b, rfl⟩ := isI_nat (by omega) c_13
      have hJ := c_13
      have hu031 : u0 < 2 ^ 31 := by omega
      have hr9 := hVR.1 u0 hu0b
      have hlc := lc_16 (V1 := VV k0) (V2 := VV u0) (n2 := Vl u0) (i := 0) (j := 0) hq.2.1
      refine lv_iload_n hx hb dX10_shared_16 rfl (lv_at hl 3 rfl) ?_
      have J28 : ((isI (nI k0) vi ∧ isI (nI u0) vi ∧ (¬ z0 < 0 ∨ z0 = -4))) → ∀ (ls : Array Slot), lv_has ls 12 [(0, .ref (ad 114)), (1, .int (nI (k0))), (2, .int (nI (u0))), (3, .int z0)] → W p l e (rmF 2 46) s m [.ref (ad 114), .int (nI k0), .int (nI u0), .int z0].toArray below meth c s.heap [] 0 0 (MQ below (QI (fun r g1 => ∃ (LG2 : Nat → Nat), (r = if (isI (nI k0) vi ∧ isI (nI u0) vi ∧ (¬ z0 < 0 ∨ z0 = -4)) then (if z0 = -4 then nI (lc (VV (nI k0).toNatClampNeg) (VV (nI u0).toNatClampNeg) (Vl (nI k0).toNatClampNeg) (Vl (nI u0).toNatClampNeg) 0 0) else if z0 < nI (lc (VV (nI k0).toNatClampNeg) (VV (nI u0).toNatClampNeg) (Vl (nI k0).toNatClampNeg) (Vl (nI u0).toNatClampNeg) 0 0) then nI (sfg (VV (nI k0).toNatClampNeg) (VV (nI u0).toNatClampNeg) (Vl (nI k0).toNatClampNeg) (Vl (nI u0).toNatClampNeg) z0.toNatClampNeg) else -4) else -1) ∧ g1 114 = mob ad (nI (n)) (nI (fa)) (nI (he)) (lN ov) (nI (un)) la bo (nI (tp)) ft (nI (wr0)) (nI (wa)) (nI (at0)) (nI (sp)) (nI (tk)) vl (nI (fi)) (nI (nm)) (nI (dp)) wy st (nI (aP)) (nI (aF)) (nI (aH)) (lN aO) (nI (ps)) (nI (mn)) go (nI (vi)) ∧ g1 141 = .inl (cy 1, 289, .inl (fun x9 => nI (LG2 x9))) ∧ (∀ j, j ≠ 114 → j ≠ 141 → g1 j = g j)) D ad N) [.ref (ad 114), .int (nI k0), .int (nI u0), .int z0].toArray s 0 0 (AA ad N)) (F0 m 28 ls []) := by
        intro hC ls hl
        refine lv_aload_n hx hb dX10_shared_28 rfl (lv_at hl 0 rfl) ?_
        refine lv_iload_n hx hb dX10_shared_29 rfl (lv_at hl 1 rfl) ?_
        refine lv_iload_n hx hb dX10_shared_30 rfl (lv_at hl 2 rfl) ?_
        refine kMv (As := [.int (nI (k0)), .int (nI (u0))]) (rest := []) S hK hP hS (fun _ h => h) (c_X10_layLongest l D cy ad N g hinj (by omega) n fa he ov un la bo tp ft wr0 wa at0 sp tk vl fi nm dp wy st aP aF aH aO ps mn go vi hM DM hDM DA hDA Vl VV hvi hVR LG hLG hfi k0 hk0b u0 hu0b) cv_X10_366 (by omega) hM ⟨_, _, rfl⟩ ⟨rfl, rfl⟩ rfl hl.1 rfl (Nat.le_of_ble_eq_true rfl) ⟨Nat.zero_le _, Nat.zero_le _⟩ dX10_shared_31 (fun g_1 H locs q_1 hP hS => ?_)
        obtain ⟨LG2_1, hLG2_1, h114_1, h141_1, f_1⟩ := q_1
        have h139_1 : g_1 139 = .inl (cy 1, 4, .inl (fun x9 => nI (DM x9))) := (f_1 139 (by omega) (by omega)).trans hDM
        have h140_1 : g_1 140 = .inl (cy 1, 64, .inl (fun x9 => nI (DA x9))) := (f_1 140 (by omega) (by omega)).trans hDA
        have hfr_1 : ∀ j : Nat, j ≠ 114 → j ≠ 141 → g_1 j = g j := fun j n0 n1 => (f_1 j n0 n1).trans (hfr j )
        have hLGx := hLG2_1
        refine lv_aload_n hx hb dX10_shared_34 rfl (lv_at hl 0 rfl) ?_
        refine mg S hK hP (by omega) h114_1 fd_X10_99 rfl dX10_shared_35 ?_
        refine lv_iconst (v := nI (0)) hx hb dX10_shared_38 (by decide) ?_
        refine mial S hK hP (by omega) h141_1 (vp_in_nI (by omega) (by omega)) dX10_shared_39 ?_
        refine tpi (congrArg ((fun x9 => nI (LG2_1 x9))) (nI_clamp (by omega))) ?_
        refine tpi (congrArg nI (hLGx 0 0 (by omega) (by omega))) ?_
        refine lv_istore (lv' := [(4, .int (nI (lc (VV k0) (VV u0) (Vl k0) (Vl u0) 0 0))), (0, .ref (ad 114)), (1, .int (nI (k0))), (2, .int (nI (u0))), (3, .int z0)]) hx hb dX10_shared_40 hl (by decide) rfl (fun ls hl => ?_)
        refine lv_iload_n hx hb dX10_shared_42 rfl (lv_at hl 4 rfl) ?_
        refine lv_bipush (v := (-4)) hx hb dX10_shared_43 (by decide) ?_
        refine lv_icmp_ne (tgt := 51) hx hb dX10_shared_45 (by decide) (fun c_45 => ?_) (fun c_45 => ?_)
        · skip
          refine lv_iload_n hx hb dX10_shared_51 rfl (lv_at hl 4 rfl) ?_
          refine lv_iload hx hb dX10_shared_52 (lv_at hl 0 rfl) ?_
          refine lv_icmp_lt (tgt := 60) hx hb dX10_shared_54 (by decide) (fun c_54 => ?_) (fun c_54 => ?_)
          · skip
            obtain ⟨zn, hznb, rfl⟩ := nI_of (x := z0) (hC.2.2.elim id (fun q => absurd q (by assumption)))
            have hzl := (nI_ltI hznb (by omega)).mp c_54
            refine lv_iconst (v := nI (0)) hx hb dX10_shared_60 (by decide) ?_
            refine lv_istore (lv' := [(5, .int (nI (0))), (4, .int (nI (lc (VV k0) (VV u0) (Vl k0) (Vl u0) 0 0))), (0, .ref (ad 114)), (1, .int (nI (k0))), (2, .int (nI (u0))), (3, .int (nI (zn)))]) hx hb dX10_shared_61 hl (by decide) rfl (fun ls hl => ?_)
            refine lv_iconst (v := nI (0)) hx hb dX10_shared_63 (by decide) ?_
            refine lv_istore (lv' := [(6, .int (nI (0))), (5, .int (nI (0))), (4, .int (nI (lc (VV k0) (VV u0) (Vl k0) (Vl u0) 0 0))), (0, .ref (ad 114)), (1, .int (nI (k0))), (2, .int (nI (u0))), (3, .int (nI (zn)))]) hx hb dX10_shared_64 hl (by decide) rfl (fun ls hl => ?_)
            refine lv_bipush (v := (-4)) hx hb dX10_shared_66 (by decide) ?_
            refine lv_istore (lv' := [(7, .int (-4)), (6, .int (nI (0))), (5, .int (nI (0))), (4, .int (nI (lc (VV k0) (VV u0) (Vl k0) (Vl u0) 0 0))), (0, .ref (ad 114)), (1, .int (nI (k0))), (2, .int (nI (u0))), (3, .int (nI (zn)))]) hx hb dX10_shared_68 hl (by decide) rfl (fun ls hl => ?_)
            refine lv_iconst (v := nI (0)) hx hb dX10_shared_70 (by decide) ?_
            refine lv_istore (lv' := [(8, .int (nI (0))), (7, .int (-4)), (6, .int (nI (0))), (5, .int (nI (0))), (4, .int (nI (lc (VV k0) (VV u0) (Vl k0) (Vl u0) 0 0))), (0, .ref (ad 114)), (1, .int (nI (k0))), (2, .int (nI (u0))), (3, .int (nI (zn)))]) hx hb dX10_shared_71 hl (by decide) rfl (fun ls hl => ?_)
            have L73 : ∀ (fu : Nat) (c9 a9 b9 : Nat) (fo : Int32), (c9 ≤ zn + 1) → ((a9, b9) = sst (VV k0) (VV u0) (Vl k0) (Vl u0) c9) → (0 < c9 → fo = nI (sfg (VV k0) (VV u0) (Vl k0) (Vl u0) (c9 - 1))) → (zn + 1 - c9) < fu → ∀ (ls : Array Slot), lv_has ls 12 [(8, .int (nI (c9))), (7, .int fo), (6, .int (nI (b9))), (5, .int (nI (a9))), (4, .int (nI (lc (VV k0) (VV u0) (Vl k0) (Vl u0) 0 0 - c9))), (0, .ref (ad 114)), (1, .int (nI (k0))), (2, .int (nI (u0))), (3, .int (nI (zn)))] → W p l e (rmF 2 46) s m [.ref (ad 114), .int (nI k0), .int (nI u0), .int (nI zn)].toArray below meth c H locs 0 0 (MQ below (QI (fun r g1 => ∃ (LG2 : Nat → Nat), (r = if (isI (nI k0) vi ∧ isI (nI u0) vi ∧ (¬ (nI zn) < 0 ∨ (nI zn) = -4)) then (if (nI zn) = -4 then nI (lc (VV (nI k0).toNatClampNeg) (VV (nI u0).toNatClampNeg) (Vl (nI k0).toNatClampNeg) (Vl (nI u0).toNatClampNeg) 0 0) else if (nI zn) < nI (lc (VV (nI k0).toNatClampNeg) (VV (nI u0).toNatClampNeg) (Vl (nI k0).toNatClampNeg) (Vl (nI u0).toNatClampNeg) 0 0) then nI (sfg (VV (nI k0).toNatClampNeg) (VV (nI u0).toNatClampNeg) (Vl (nI k0).toNatClampNeg) (Vl (nI u0).toNatClampNeg) (nI zn).toNatClampNeg) else -4) else -1) ∧ g1 114 = mob ad (nI (n)) (nI (fa)) (nI (he)) (lN ov) (nI (un)) la bo (nI (tp)) ft (nI (wr0)) (nI (wa)) (nI (at0)) (nI (sp)) (nI (tk)) vl (nI (fi)) (nI (nm)) (nI (dp)) wy st (nI (aP)) (nI (aF)) (nI (aH)) (lN aO) (nI (ps)) (nI (mn)) go (nI (vi)) ∧ g1 141 = .inl (cy 1, 289, .inl (fun x9 => nI (LG2 x9))) ∧ (∀ j, j ≠ 114 → j ≠ 141 → g1 j = g j)) D ad N) [.ref (ad 114), .int (nI k0), .int (nI u0), .int (nI zn)].toArray s 0 0 (AA ad N)) (F0 m 73 ls []) := by
              intro fu
              induction fu with
              | zero => intro c9 a9 b9 fo hc9 hst hfo hms ls hl; exact absurd hms (Nat.not_lt_zero _)
              | succ fu ih73 =>
                intro c9 a9 b9 fo hc9 hst hfo hms ls hl
                refine lv_iload hx hb dX10_shared_73 (lv_at hl 0 rfl) ?_
                refine lv_iload_n hx hb dX10_shared_75 rfl (lv_at hl 8 rfl) ?_
                refine lv_icmp_gt (tgt := 193) hx hb dX10_shared_76 (by decide) (fun c_76 => ?_) (fun c_76 => ?_)
                · skip
                  have c_76 := (nI_ltI (by omega) (by omega)).mp c_76
                  refine lv_iload hx hb dX10_shared_193 (lv_at hl 1 rfl) ?_
                  exact rMi S hr hlk hP hS ⟨_, (by rw [if_pos hC, nI_clamp hk031, nI_clamp hu031, if_neg (nI_m4 hznb), if_pos (by assumption), nI_clamp hznb, hfo (by omega), show c9 - 1 = zn by omega]), h114_1, h141_1, hfr_1⟩ dX10_shared_195
                · skip
                  have c_76 := (not_congr (nI_ltI (by omega) (by omega))).mp c_76
                  refine lv_bipush (v := (-4)) hx hb dX10_shared_79 (by decide) ?_
                  refine lv_istore (lv' := [(7, .int (-4)), (8, .int (nI (c9))), (6, .int (nI (b9))), (5, .int (nI (a9))), (4, .int (nI (lc (VV k0) (VV u0) (Vl k0) (Vl u0) 0 0 - c9))), (0, .ref (ad 114)), (1, .int (nI (k0))), (2, .int (nI (u0))), (3, .int (nI (zn)))]) hx hb dX10_shared_81 hl (by decide) rfl (fun ls hl => ?_)
                  refine lv_iconst (v := nI (0)) hx hb dX10_shared_83 (by decide) ?_
                  refine lv_istore (lv' := [(9, .int (nI (0))), (7, .int (-4)), (8, .int (nI (c9))), (6, .int (nI (b9))), (5, .int (nI (a9))), (4, .int (nI (lc (VV k0) (VV u0) (Vl k0) (Vl u0) 0 0 - c9))), (0, .ref (ad 114)), (1, .int (nI (k0))), (2, .int (nI (u0))), (3, .int (nI (zn)))]) hx hb dX10_shared_84 hl (by decide) rfl (fun ls hl => ?_)
                  have L86 : ∀ (fu : Nat) (f9 a9 b9 : Nat) (fo : Int32), (f9 ≤ fi) → (shS (VV k0) (VV u0) (Vl k0) (Vl u0) c9 f9 a9 b9 fo) → (fi - f9) < fu → ∀ (ls : Array Slot), lv_has ls 12 [(9, .int (nI (f9))), (7, .int fo), (8, .int (nI (c9))), (6, .int (nI (b9))), (5, .int (nI (a9))), (4, .int (nI (lc (VV k0) (VV u0) (Vl k0) (Vl u0) 0 0 - c9))), (0, .ref (ad 114)), (1, .int (nI (k0))), (2, .int (nI (u0))), (3, .int (nI (zn)))] → W p l e (rmF 2 46) s m [.ref (ad 114), .int (nI k0), .int (nI u0), .int (nI zn)].toArray below meth c H locs 0 0 (MQ below (QI (fun r g1 => ∃ (LG2 : Nat → Nat), (r = if (isI (nI k0) vi ∧ isI (nI u0) vi ∧ (¬ (nI zn) < 0 ∨ (nI zn) = -4)) then (if (nI zn) = -4 then nI (lc (VV (nI k0).toNatClampNeg) (VV (nI u0).toNatClampNeg) (Vl (nI k0).toNatClampNeg) (Vl (nI u0).toNatClampNeg) 0 0) else if (nI zn) < nI (lc (VV (nI k0).toNatClampNeg) (VV (nI u0).toNatClampNeg) (Vl (nI k0).toNatClampNeg) (Vl (nI u0).toNatClampNeg) 0 0) then nI (sfg (VV (nI k0).toNatClampNeg) (VV (nI u0).toNatClampNeg) (Vl (nI k0).toNatClampNeg) (Vl (nI u0).toNatClampNeg) (nI zn).toNatClampNeg) else -4) else -1) ∧ g1 114 = mob ad (nI (n)) (nI (fa)) (nI (he)) (lN ov) (nI (un)) la bo (nI (tp)) ft (nI (wr0)) (nI (wa)) (nI (at0)) (nI (sp)) (nI (tk)) vl (nI (fi)) (nI (nm)) (nI (dp)) wy st (nI (aP)) (nI (aF)) (nI (aH)) (lN aO) (nI (ps)) (nI (mn)) go (nI (vi)) ∧ g1 141 = .inl (cy 1, 289, .inl (fun x9 => nI (LG2 x9))) ∧ (∀ j, j ≠ 114 → j ≠ 141 → g1 j = g j)) D ad N) [.ref (ad 114), .int (nI k0), .int (nI u0), .int (nI zn)].toArray s 0 0 (AA ad N)) (F0 m 86 ls []) := by
                    intro fu
                    induction fu with
                    | zero => intro f9 a9 b9 fo hf9 hsh hms ls hl; exact absurd hms (Nat.not_lt_zero _)
                    | succ fu ih86 =>
                      intro f9 a9 b9 fo hf9 hsh hms ls hl
                      refine lv_iload hx hb dX10_shared_86 (lv_at hl 0 rfl) ?_
                      refine lv_aload_n hx hb dX10_shared_88 rfl (lv_at hl 6 rfl) ?_
                      refine mg S hK hP (by omega) h114_1 fd_X10_262 rfl dX10_shared_89 ?_
                      refine lv_icmp_ge (tgt := 184) hx hb dX10_shared_92 (by decide) (fun c_92 => ?_) (fun c_92 => ?_)
                      · skip
                        have c_92 := (nI_leI (by omega) (by omega)).mp c_92
                        have hse := shS_e hsh (hVV k0) (fun k hk => (hq.2.2 k hk).2) (show c9 < lc (VV k0) (VV u0) (Vl k0) (Vl u0) 0 0 by omega) (by first | exact Or.inl c_92 | exact Or.inr c_99)
                        refine lv_iinc (v := nI (lc (VV k0) (VV u0) (Vl k0) (Vl u0) 0 0 - (c9 + 1))) (lv' := [(4, .int (nI (lc (VV k0) (VV u0) (Vl k0) (Vl u0) 0 0 - (c9 + 1)))), (9, .int (nI (f9))), (7, .int fo), (8, .int (nI (c9))), (6, .int (nI (b9))), (5, .int (nI (a9))), (0, .ref (ad 114)), (1, .int (nI (k0))), (2, .int (nI (u0))), (3, .int (nI (zn)))]) hx hb dX10_shared_184 hl (k := 5) rfl (by rw [nI_dec (by omega), Nat.sub_sub]) (by decide) rfl (fun ls hl => ?_)
                        refine lv_iinc (v := nI (c9 + 1)) (lv' := [(8, .int (nI (c9 + 1))), (4, .int (nI (lc (VV k0) (VV u0) (Vl k0) (Vl u0) 0 0 - (c9 + 1)))), (9, .int (nI (f9))), (7, .int fo), (6, .int (nI (b9))), (5, .int (nI (a9))), (0, .ref (ad 114)), (1, .int (nI (k0))), (2, .int (nI (u0))), (3, .int (nI (zn)))]) hx hb dX10_shared_187 hl (k := 3) rfl (by exact nI_add c9 1) (by decide) rfl (fun ls hl => ?_)
                        refine lv_goto (tgt := 73) hx hb dX10_shared_190 (by decide) ?_
                        exact ih73 (c9 + 1) a9 b9 fo (by omega) hse.2 (fun _ => hse.1) (by omega) _ (lv_sub hl [0, 3, 4, 5, 1, 6, 7, 8, 9] rfl)
                      · skip
                        have c_92 := (not_congr (nI_leI (by omega) (by omega))).mp c_92
                        refine lv_iload hx hb dX10_shared_95 (lv_at hl 1 rfl) ?_
                        refine lv_bipush (v := (-4)) hx hb dX10_shared_97 (by decide) ?_
                        refine lv_icmp_ne (tgt := 184) hx hb dX10_shared_99 (by decide) (fun c_99 => ?_) (fun c_99 => ?_)
                        · skip
                          have hse := shS_e hsh (hVV k0) (fun k hk => (hq.2.2 k hk).2) (show c9 < lc (VV k0) (VV u0) (Vl k0) (Vl u0) 0 0 by omega) (by first | exact Or.inl c_92 | exact Or.inr c_99)
                          refine lv_iinc (v := nI (lc (VV k0) (VV u0) (Vl k0) (Vl u0) 0 0 - (c9 + 1))) (lv' := [(4, .int (nI (lc (VV k0) (VV u0) (Vl k0) (Vl u0) 0 0 - (c9 + 1)))), (9, .int (nI (f9))), (7, .int fo), (8, .int (nI (c9))), (6, .int (nI (b9))), (5, .int (nI (a9))), (0, .ref (ad 114)), (1, .int (nI (k0))), (2, .int (nI (u0))), (3, .int (nI (zn)))]) hx hb dX10_shared_184 hl (k := 5) rfl (by rw [nI_dec (by omega), Nat.sub_sub]) (by decide) rfl (fun ls hl => ?_)
                          refine lv_iinc (v := nI (c9 + 1)) (lv' := [(8, .int (nI (c9 + 1))), (4, .int (nI (lc (VV k0) (VV u0) (Vl k0) (Vl u0) 0 0 - (c9 + 1)))), (9, .int (nI (f9))), (7, .int fo), (6, .int (nI (b9))), (5, .int (nI (a9))), (0, .ref (ad 114)), (1, .int (nI (k0))), (2, .int (nI (u0))), (3, .int (nI (zn)))]) hx hb dX10_shared_187 hl (k := 3) rfl (by exact nI_add c9 1) (by decide) rfl (fun ls hl => ?_)
                          refine lv_goto (tgt := 73) hx hb dX10_shared_190 (by decide) ?_
                          exact ih73 (c9 + 1) a9 b9 fo (by omega) hse.2 (fun _ => hse.1) (by omega) _ (lv_sub hl [0, 3, 4, 5, 1, 6, 7, 8, 9] rfl)
                        · skip
                          have hab := shS_b hsh (hVV k0) (show c9 < lc (VV k0) (VV u0) (Vl k0) (Vl u0) 0 0 by omega)
                          have hp1 := pfr_le (V := VV k0) (f := f9) hab.1
                          have hp2 := pfr_le (V := VV u0) (f := f9) hab.2
                          refine lv_aload_n hx hb dX10_shared_102 rfl (lv_at hl 6 rfl) ?_
                          refine lv_iload_n hx hb dX10_shared_103 rfl (lv_at hl 7 rfl) ?_
                          refine lv_iload hx hb dX10_shared_104 (lv_at hl 4 rfl) ?_
                          refine lv_iload hx hb dX10_shared_106 (lv_at hl 0 rfl) ?_
                          refine kVi (As := [.int (nI (k0)), .int (nI (a9)), .int (nI (f9))]) (rest := []) S hK hP (c_X10_firstOf l D cy ad N g_1 (by omega) n fa he ov un la bo tp ft wr0 wa at0 sp tk vl fi nm dp wy st aP aF aH aO ps mn go vi h114_1 DM h139_1 DA h140_1 Vl VV hvi hVR hfi k0 hk0b a9 hab.1 f9 (by omega)) cv_X10_369 (by omega) h114_1 ⟨_, _, rfl⟩ ⟨rfl, rfl⟩ rfl hl.1 rfl (Nat.le_of_ble_eq_true rfl) ⟨Nat.zero_le _, Nat.zero_le _⟩ dX10_shared_108 (fun r_108 q_108 => ?_)
                          subst q_108
                          have hn1 := hq.2.1
                          have hi1 : (if pfr (VV k0) (Vl k0) f9 a9 < Vl k0 then pfr (VV k0) (Vl k0) f9 a9 else 16) ≤ 16 := by split <;> omega
                          refine lv_istore (lv' := [(10, .int (nI (if pfr (VV k0) (Vl k0) f9 a9 < Vl k0 then pfr (VV k0) (Vl k0) f9 a9 else 16))), (9, .int (nI (f9))), (7, .int fo), (8, .int (nI (c9))), (6, .int (nI (b9))), (5, .int (nI (a9))), (4, .int (nI (lc (VV k0) (VV u0) (Vl k0) (Vl u0) 0 0 - c9))), (0, .ref (ad 114)), (1, .int (nI (k0))), (2, .int (nI (u0))), (3, .int (nI (zn)))]) hx hb dX10_shared_111 hl (by decide) rfl (fun ls hl => ?_)
                          refine lv_aload_n hx hb dX10_shared_113 rfl (lv_at hl 7 rfl) ?_
                          refine lv_iload_n hx hb dX10_shared_114 rfl (lv_at hl 9 rfl) ?_
                          refine lv_iload hx hb dX10_shared_115 (lv_at hl 4 rfl) ?_
                          refine lv_iload hx hb dX10_shared_117 (lv_at hl 1 rfl) ?_
                          refine kVi (As := [.int (nI (u0)), .int (nI (b9)), .int (nI (f9))]) (rest := []) S hK hP (c_X10_firstOf l D cy ad N g_1 (by omega) n fa he ov un la bo tp ft wr0 wa at0 sp tk vl fi nm dp wy st aP aF aH aO ps mn go vi h114_1 DM h139_1 DA h140_1 Vl VV hvi hVR hfi u0 hu0b b9 hab.2 f9 (by omega)) cv_X10_369 (by omega) h114_1 ⟨_, _, rfl⟩ ⟨rfl, rfl⟩ rfl hl.1 rfl (Nat.le_of_ble_eq_true rfl) ⟨Nat.zero_le _, Nat.zero_le _⟩ dX10_shared_119 (fun r_119 q_119 => ?_)
                          subst q_119
                          have hn2 := hr9.2.1
                          have hi2 : (if pfr (VV u0) (Vl u0) f9 b9 < Vl u0 then pfr (VV u0) (Vl u0) f9 b9 else 16) ≤ 16 := by split <;> omega
                          refine lv_istore (lv' := [(11, .int (nI (if pfr (VV u0) (Vl u0) f9 b9 < Vl u0 then pfr (VV u0) (Vl u0) f9 b9 else 16))), (10, .int (nI (if pfr (VV k0) (Vl k0) f9 a9 < Vl k0 then pfr (VV k0) (Vl k0) f9 a9 else 16))), (9, .int (nI (f9))), (7, .int fo), (8, .int (nI (c9))), (6, .int (nI (b9))), (5, .int (nI (a9))), (4, .int (nI (lc (VV k0) (VV u0) (Vl k0) (Vl u0) 0 0 - c9))), (0, .ref (ad 114)), (1, .int (nI (k0))), (2, .int (nI (u0))), (3, .int (nI (zn)))]) hx hb dX10_shared_122 hl (by decide) rfl (fun ls hl => ?_)
                          have hn1 := hq.2.1
                          have hn2 := hr9.2.1
                          refine lv_iload hx hb dX10_shared_124 (lv_at hl 1 rfl) ?_
                          refine lv_bipush (v := nI (16)) hx hb dX10_shared_126 (by decide) ?_
                          refine lv_icmp_ge (tgt := 178) hx hb dX10_shared_128 (by decide) (fun c_128 => ?_) (fun c_128 => ?_)
                          · skip
                            have c_128 := (nI_leI (by omega) (by omega)).mp c_128
                            have hP : lnP (VV k0) (VV u0) (Vl k0) (Vl u0) a9 b9 (lc (VV k0) (VV u0) (Vl k0) (Vl u0) 0 0 - c9) f9 = false := (by unfold lnP; rw [decide_eq_false (show ¬ pfr (VV k0) (Vl k0) f9 a9 < Vl k0 by intro z; rw [if_pos z] at c_128; omega)]; rfl)
                            refine lv_iinc (v := nI (f9 + 1)) (lv' := [(9, .int (nI (f9 + 1))), (11, .int (nI (if pfr (VV u0) (Vl u0) f9 b9 < Vl u0 then pfr (VV u0) (Vl u0) f9 b9 else 16))), (10, .int (nI (if pfr (VV k0) (Vl k0) f9 a9 < Vl k0 then pfr (VV k0) (Vl k0) f9 a9 else 16))), (7, .int fo), (8, .int (nI (c9))), (6, .int (nI (b9))), (5, .int (nI (a9))), (4, .int (nI (lc (VV k0) (VV u0) (Vl k0) (Vl u0) 0 0 - c9))), (0, .ref (ad 114)), (1, .int (nI (k0))), (2, .int (nI (u0))), (3, .int (nI (zn)))]) hx hb dX10_shared_178 hl (k := 2) rfl (by exact nI_add f9 1) (by decide) rfl (fun ls hl => ?_)
                            refine lv_goto (tgt := 86) hx hb dX10_shared_181 (by decide) ?_
                            exact ih86 (f9 + 1) a9 b9 fo (by omega) (shS_n hsh c_99 (hVV k0) (by omega) hP) (by omega) _ (lv_sub hl [0, 3, 4, 5, 6, 7, 8, 9, 10, 11] rfl)
                          · skip
                            have c_128 := (not_congr (nI_leI (by omega) (by omega))).mp c_128
                            refine lv_iload hx hb dX10_shared_131 (lv_at hl 0 rfl) ?_
                            refine lv_bipush (v := nI (16)) hx hb dX10_shared_133 (by decide) ?_
                            refine lv_icmp_ge (tgt := 178) hx hb dX10_shared_135 (by decide) (fun c_135 => ?_) (fun c_135 => ?_)
                            · skip
                              have c_135 := (nI_leI (by omega) (by omega)).mp c_135
                              have hP : lnP (VV k0) (VV u0) (Vl k0) (Vl u0) a9 b9 (lc (VV k0) (VV u0) (Vl k0) (Vl u0) 0 0 - c9) f9 = false := (by unfold lnP; rw [decide_eq_false (show ¬ pfr (VV u0) (Vl u0) f9 b9 < Vl u0 by intro z; rw [if_pos z] at c_135; omega)]; rw [Bool.false_and, Bool.and_false])
                              refine lv_iinc (v := nI (f9 + 1)) (lv' := [(9, .int (nI (f9 + 1))), (11, .int (nI (if pfr (VV u0) (Vl u0) f9 b9 < Vl u0 then pfr (VV u0) (Vl u0) f9 b9 else 16))), (10, .int (nI (if pfr (VV k0) (Vl k0) f9 a9 < Vl k0 then pfr (VV k0) (Vl k0) f9 a9 else 16))), (7, .int fo), (8, .int (nI (c9))), (6, .int (nI (b9))), (5, .int (nI (a9))), (4, .int (nI (lc (VV k0) (VV u0) (Vl k0) (Vl u0) 0 0 - c9))), (0, .ref (ad 114)), (1, .int (nI (k0))), (2, .int (nI (u0))), (3, .int (nI (zn)))]) hx hb dX10_shared_178 hl (k := 2) rfl (by exact nI_add f9 1) (by decide) rfl (fun ls hl => ?_)
                              refine lv_goto (tgt := 86) hx hb dX10_shared_181 (by decide) ?_
                              exact ih86 (f9 + 1) a9 b9 fo (by omega) (shS_n hsh c_99 (hVV k0) (by omega) hP) (by omega) _ (lv_sub hl [0, 3, 4, 5, 6, 7, 8, 9, 10, 11] rfl)
                            · skip
                              have c_135 := (not_congr (nI_leI (by omega) (by omega))).mp c_135
                              have h1q : pfr (VV k0) (Vl k0) f9 a9 < Vl k0 := by split at c_128; assumption; omega
                              have h2q : pfr (VV u0) (Vl u0) f9 b9 < Vl u0 := by split at c_135; assumption; omega
                              refine lv_iconst (v := nI (1)) hx hb dX10_shared_138 (by decide) ?_
                              refine lv_aload_n hx hb dX10_shared_139 rfl (lv_at hl 8 rfl) ?_
                              refine mg S hK hP (by omega) h114_1 fd_X10_99 rfl dX10_shared_140 ?_
                              refine lv_bipush (v := nI (17)) hx hb dX10_shared_143 (by decide) ?_
                              refine lv_iload hx hb dX10_shared_145 (lv_at hl 1 rfl) ?_
                              refine lv_iconst (v := nI (1)) hx hb dX10_shared_147 (by decide) ?_
                              refine lv_iadd hx hb dX10_shared_148 ?_
                              refine tpi (nI_add (if pfr (VV k0) (Vl k0) f9 a9 < Vl k0 then pfr (VV k0) (Vl k0) f9 a9 else 16) 1) ?_
                              refine lv_imul hx hb dX10_shared_149 ?_
                              refine tpi (pk_mul 17 ((if pfr (VV k0) (Vl k0) f9 a9 < Vl k0 then pfr (VV k0) (Vl k0) f9 a9 else 16) + 1)) ?_
                              refine lv_iload hx hb dX10_shared_150 (lv_at hl 0 rfl) ?_
                              refine lv_iadd hx hb dX10_shared_152 ?_
                              refine tpi (nI_add (17 * ((if pfr (VV k0) (Vl k0) f9 a9 < Vl k0 then pfr (VV k0) (Vl k0) f9 a9 else 16) + 1)) (if pfr (VV u0) (Vl u0) f9 b9 < Vl u0 then pfr (VV u0) (Vl u0) f9 b9 else 16)) ?_
                              refine lv_iconst (v := nI (1)) hx hb dX10_shared_153 (by decide) ?_
                              refine lv_iadd hx hb dX10_shared_154 ?_
                              refine tpi (nI_add ((17 * ((if pfr (VV k0) (Vl k0) f9 a9 < Vl k0 then pfr (VV k0) (Vl k0) f9 a9 else 16) + 1)) + (if pfr (VV u0) (Vl u0) f9 b9 < Vl u0 then pfr (VV u0) (Vl u0) f9 b9 else 16)) 1) ?_
                              refine tpi ((by rw [if_pos h1q, if_pos h2q])) ?_
                              refine mial S hK hP (by omega) h141_1 (vp_in_nI (by omega) (by omega)) dX10_shared_155 ?_
                              refine tpi (congrArg ((fun x9 => nI (LG2_1 x9))) (nI_clamp (by omega))) ?_
                              refine tpi (congrArg nI (hLGx (pfr (VV k0) (Vl k0) f9 a9 + 1) (pfr (VV u0) (Vl u0) f9 b9 + 1) (by omega) (by omega))) ?_
                              have hl9 := lc_16 (V1 := VV k0) (V2 := VV u0) (n2 := Vl u0) (i := pfr (VV k0) (Vl k0) f9 a9 + 1) (j := pfr (VV u0) (Vl u0) f9 b9 + 1) hq.2.1
                              refine lv_iadd hx hb dX10_shared_156 ?_
                              refine tpi (nI_add 1 (lc (VV k0) (VV u0) (Vl k0) (Vl u0) (pfr (VV k0) (Vl k0) f9 a9 + 1) (pfr (VV u0) (Vl u0) f9 b9 + 1))) ?_
                              refine lv_iload hx hb dX10_shared_157 (lv_at hl 7 rfl) ?_
                              refine lv_icmp_ne (tgt := 178) hx hb dX10_shared_159 (by decide) (fun c_159 => ?_) (fun c_159 => ?_)
                              · skip
                                have c_159 := (not_congr (nI_eq (by omega) (by omega))).mp c_159
                                have hP : lnP (VV k0) (VV u0) (Vl k0) (Vl u0) a9 b9 (lc (VV k0) (VV u0) (Vl k0) (Vl u0) 0 0 - c9) f9 = false := (by unfold lnP; rw [decide_eq_false (show ¬ lc (VV k0) (VV u0) (Vl k0) (Vl u0) (pfr (VV k0) (Vl k0) f9 a9 + 1) (pfr (VV u0) (Vl u0) f9 b9 + 1) + 1 = lc (VV k0) (VV u0) (Vl k0) (Vl u0) 0 0 - c9 by omega), Bool.and_false, Bool.and_false])
                                refine lv_iinc (v := nI (f9 + 1)) (lv' := [(9, .int (nI (f9 + 1))), (11, .int (nI (if pfr (VV u0) (Vl u0) f9 b9 < Vl u0 then pfr (VV u0) (Vl u0) f9 b9 else 16))), (10, .int (nI (if pfr (VV k0) (Vl k0) f9 a9 < Vl k0 then pfr (VV k0) (Vl k0) f9 a9 else 16))), (7, .int fo), (8, .int (nI (c9))), (6, .int (nI (b9))), (5, .int (nI (a9))), (4, .int (nI (lc (VV k0) (VV u0) (Vl k0) (Vl u0) 0 0 - c9))), (0, .ref (ad 114)), (1, .int (nI (k0))), (2, .int (nI (u0))), (3, .int (nI (zn)))]) hx hb dX10_shared_178 hl (k := 2) rfl (by exact nI_add f9 1) (by decide) rfl (fun ls hl => ?_)
                                refine lv_goto (tgt := 86) hx hb dX10_shared_181 (by decide) ?_
                                exact ih86 (f9 + 1) a9 b9 fo (by omega) (shS_n hsh c_99 (hVV k0) (by omega) hP) (by omega) _ (lv_sub hl [0, 3, 4, 5, 6, 7, 8, 9, 10, 11] rfl)
                              · skip
                                have c_159 := (nI_eq (by omega) (by omega)).mp c_159
                                refine lv_iload hx hb dX10_shared_162 (lv_at hl 2 rfl) ?_
                                refine lv_istore (lv' := [(7, .int (nI (f9))), (11, .int (nI (if pfr (VV u0) (Vl u0) f9 b9 < Vl u0 then pfr (VV u0) (Vl u0) f9 b9 else 16))), (10, .int (nI (if pfr (VV k0) (Vl k0) f9 a9 < Vl k0 then pfr (VV k0) (Vl k0) f9 a9 else 16))), (9, .int (nI (f9))), (8, .int (nI (c9))), (6, .int (nI (b9))), (5, .int (nI (a9))), (4, .int (nI (lc (VV k0) (VV u0) (Vl k0) (Vl u0) 0 0 - c9))), (0, .ref (ad 114)), (1, .int (nI (k0))), (2, .int (nI (u0))), (3, .int (nI (zn)))]) hx hb dX10_shared_164 hl (by decide) rfl (fun ls hl => ?_)
                                refine lv_iload hx hb dX10_shared_166 (lv_at hl 2 rfl) ?_
                                refine lv_iconst (v := nI (1)) hx hb dX10_shared_168 (by decide) ?_
                                refine lv_iadd hx hb dX10_shared_169 ?_
                                refine tpi (nI_add (if pfr (VV k0) (Vl k0) f9 a9 < Vl k0 then pfr (VV k0) (Vl k0) f9 a9 else 16) 1) ?_
                                refine lv_istore (lv' := [(5, .int (nI ((if pfr (VV k0) (Vl k0) f9 a9 < Vl k0 then pfr (VV k0) (Vl k0) f9 a9 else 16) + 1))), (7, .int (nI (f9))), (11, .int (nI (if pfr (VV u0) (Vl u0) f9 b9 < Vl u0 then pfr (VV u0) (Vl u0) f9 b9 else 16))), (10, .int (nI (if pfr (VV k0) (Vl k0) f9 a9 < Vl k0 then pfr (VV k0) (Vl k0) f9 a9 else 16))), (9, .int (nI (f9))), (8, .int (nI (c9))), (6, .int (nI (b9))), (4, .int (nI (lc (VV k0) (VV u0) (Vl k0) (Vl u0) 0 0 - c9))), (0, .ref (ad 114)), (1, .int (nI (k0))), (2, .int (nI (u0))), (3, .int (nI (zn)))]) hx hb dX10_shared_170 hl (by decide) rfl (fun ls hl => ?_)
                                refine lv_iload hx hb dX10_shared_172 (lv_at hl 2 rfl) ?_
                                refine lv_iconst (v := nI (1)) hx hb dX10_shared_174 (by decide) ?_
                                refine lv_iadd hx hb dX10_shared_175 ?_
                                refine tpi (nI_add (if pfr (VV u0) (Vl u0) f9 b9 < Vl u0 then pfr (VV u0) (Vl u0) f9 b9 else 16) 1) ?_
                                refine lv_istore (lv' := [(6, .int (nI ((if pfr (VV u0) (Vl u0) f9 b9 < Vl u0 then pfr (VV u0) (Vl u0) f9 b9 else 16) + 1))), (5, .int (nI ((if pfr (VV k0) (Vl k0) f9 a9 < Vl k0 then pfr (VV k0) (Vl k0) f9 a9 else 16) + 1))), (7, .int (nI (f9))), (11, .int (nI (if pfr (VV u0) (Vl u0) f9 b9 < Vl u0 then pfr (VV u0) (Vl u0) f9 b9 else 16))), (10, .int (nI (if pfr (VV k0) (Vl k0) f9 a9 < Vl k0 then pfr (VV k0) (Vl k0) f9 a9 else 16))), (9, .int (nI (f9))), (8, .int (nI (c9))), (4, .int (nI (lc (VV k0) (VV u0) (Vl k0) (Vl u0) 0 0 - c9))), (0, .ref (ad 114)), (1, .int (nI (k0))), (2, .int (nI (u0))), (3, .int (nI (zn)))]) hx hb dX10_shared_176 hl (by decide) rfl (fun ls hl => ?_)
                                have hP : lnP (VV k0) (VV u0) (Vl k0) (Vl u0) a9 b9 (lc (VV k0) (VV u0) (Vl k0) (Vl u0) 0 0 - c9) f9 = true := (by unfold lnP; rw [decide_eq_true h1q, decide_eq_true h2q, decide_eq_true (by omega)]; rfl)
                                refine lv_iinc (v := nI (f9 + 1)) (lv' := [(9, .int (nI (f9 + 1))), (6, .int (nI ((if pfr (VV u0) (Vl u0) f9 b9 < Vl u0 then pfr (VV u0) (Vl u0) f9 b9 else 16) + 1))), (5, .int (nI ((if pfr (VV k0) (Vl k0) f9 a9 < Vl k0 then pfr (VV k0) (Vl k0) f9 a9 else 16) + 1))), (7, .int (nI (f9))), (11, .int (nI (if pfr (VV u0) (Vl u0) f9 b9 < Vl u0 then pfr (VV u0) (Vl u0) f9 b9 else 16))), (10, .int (nI (if pfr (VV k0) (Vl k0) f9 a9 < Vl k0 then pfr (VV k0) (Vl k0) f9 a9 else 16))), (8, .int (nI (c9))), (4, .int (nI (lc (VV k0) (VV u0) (Vl k0) (Vl u0) 0 0 - c9))), (0, .ref (ad 114)), (1, .int (nI (k0))), (2, .int (nI (u0))), (3, .int (nI (zn)))]) hx hb dX10_shared_178 hl (k := 5) rfl (by exact nI_add f9 1) (by decide) rfl (fun ls hl => ?_)
                                refine lv_goto (tgt := 86) hx hb dX10_shared_181 (by decide) ?_
                                exact ih86 (f9 + 1) ((if pfr (VV k0) (Vl k0) f9 a9 < Vl k0 then pfr (VV k0) (Vl k0) f9 a9 else 16) + 1) ((if pfr (VV u0) (Vl u0) f9 b9 < Vl u0 then pfr (VV u0) (Vl u0) f9 b9 else 16) + 1) (nI (f9)) (by omega) (by rw [if_pos h1q, if_pos h2q]; exact shS_y hsh c_99 (hVV k0) (by omega) (by omega) hP) (by omega) _ (lv_sub hl [0, 3, 6, 1, 2, 7, 8, 9, 10, 11] rfl)
                  exact L86 ((fi - 0) + 1) 0 a9 b9 (-4) (by omega) (shS_0 hst) (Nat.lt_succ_self _) _ (lv_sub hl [0, 1, 2, 3, 4, 5, 6, 7, 8, 9] rfl)
            exact L73 ((zn + 1 - 0) + 1) 0 0 0 (-4) (by omega) rfl (by omega) (Nat.lt_succ_self _) _ (lv_sub hl [0, 1, 2, 3, 4, 5, 6, 7, 8] rfl)
          · skip
            refine lv_bipush (v := (-4)) hx hb dX10_shared_57 (by decide) ?_
            exact rMi S hr hlk hP hS ⟨_, (by rw [if_pos hC, nI_clamp hk031, nI_clamp hu031, if_neg (by assumption), if_neg (by assumption)]), h114_1, h141_1, hfr_1⟩ dX10_shared_59
        · skip
          refine lv_iload hx hb dX10_shared_48 (lv_at hl 0 rfl) ?_
          exact rMi S hr hlk hP hS ⟨_, (by rw [if_pos hC, nI_clamp hk031, nI_clamp hu031, if_pos (by assumption)]), h114_1, h141_1, hfr_1⟩ dX10_shared_50
      refine lv_if_ge (tgt := 28) hx hb dX10_shared_17 (by decide) (fun c_17 => ?_) (fun c_17 => ?_)
      · skip
        have hC : isI (nI k0) vi ∧ isI (nI u0) vi ∧ (¬ z0 < 0 ∨ z0 = -4) := ⟨hJ0, hJ, Or.inl (Int32.not_lt.mpr c_17)⟩
        exact J28 hC _ (lv_sub hl [0, 1, 2, 3] rfl)
      · skip
        refine lv_iload_n hx hb dX10_shared_20 rfl (lv_at hl 3 rfl) ?_
        refine lv_bipush (v := (-4)) hx hb dX10_shared_21 (by decide) ?_
        refine lv_icmp_eq (tgt := 28) hx hb dX10_shared_23 (by decide) (fun c_23 => ?_) (fun c_23 => ?_)
        · skip
          have hC : isI (nI k0) vi ∧ isI (nI u0) vi ∧ (¬ z0 < 0 ∨ z0 = -4) := ⟨hJ0, hJ, Or.inr c_23⟩
          exact J28 hC _ (lv_sub hl [0, 1, 2, 3] rfl)
        · skip
          have hC : ¬ (isI (nI k0) vi ∧ isI (nI u0) vi ∧ (¬ z0 < 0 ∨ z0 = -4)) := fun q => q.2.2.elim (fun z => c_17 (Int32.not_lt.mp z)) (fun z => c_23 z)
          refine lv_iconst (v := (-1)) hx hb dX10_shared_26 (by decide) ?_
          exact rMi S hr hlk hP hS ⟨LG, (if_neg hC).symm, hM, hLG, (fun j n0 n1 => hfr j )⟩ dX10_shared_27
